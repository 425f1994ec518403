/-! THE CLAIM OUT OF ONE WALK OF THE LAW'S BODY. Your part is whole_start (and what it stands on); all else here is the same for every law, but numbers. -/
def R_law : String := "VotedTripleLaw"
def lw_P (b : Addr) (xs : List Int32) (args : Array Value) (s : State) : Prop := args = #[.ref b] ∧ s.IntsAt b xs ∧ xs.length ≤ 5 ∧ (Jvm.Cond.and given_1 narrow_1).before args s = true
def lw_Q (_ : Array Value) (s : State) (o : Outcome) (t : State) : Prop := o = .returned (some (.int 1)) ∧ Framed s o t [] 600002 7302232
def lw_Z (below : List Frame) (a : Array Value) (s : State) : State → Prop := fun t => ∃ o, t.status = .running ∧ Ended t below o ∧ lw_Q a s o t
/-- the law's own end, with 1 on the stack, nothing written that was there before, its room as the claim has it -/
theorem lw_ret {p : Program} {l : Launch} {e : Env} {s : State} {m : MethodId} {below : List Frame} {meth : Method} {c : Code} {b : Nat} (hx : p.tables.exec = Jvm.exec) (hb : c.code = code) (hr : meth.sig.returnType = ret) (hlocks : meth.locks = false) {pc : Nat} {H : Heap} {ls : Array Slot} (hdg : decode code pc = .ok (.ireturn, 1)) : W p l e room_1 s m #[Value.ref b] below meth c H [] 600002 7302232 (lw_Z below #[Value.ref b] s) (F0 m pc ls [.int 1]) := by
  intro T hT X
  obtain ⟨fs, hret, hrun, hended, hW, hframe⟩ := X.leave (v := some (.int 1)) (hlocks := hlocks) (fun h => by rw [hr] at h; cases h)
  have hmeth' : T.vm.method? m = some meth := X.method'
  refine ⟨T.setFrames fs, ?_, .returned (some (.int 1)), hrun, hended, rfl, ⟨_, rfl⟩, hW, hframe⟩
  jvm_step X.here [X.here.top, hx, hb, hdg, hmeth', hr, ret, narrow_b1]
  (try refine ⟨rfl, ?_⟩); (try refine ⟨rfl, ?_⟩)
  first | (intro acts; rw [hret _ acts rfl rfl rfl]) | rw [hret _ _ rfl rfl rfl]
  exact Steps.refl _
/-- what holds at the law's entry: the machine, the code, the tables' words (any of lw_tbl by 'hts w (by decide +kernel)'), the script of L ints xs at the cell b, what the Statement gives of the start (any of its parts by flat_of_before) -/
def lw_At (p : Program) (s : State) (m : MethodId) (meth : Method) (c : Code) (b L : Nat) (xs : Nat → Int32) : Prop :=
  p.tables.exec = Jvm.exec ∧ c.code = code ∧ meth.sig.returnType = ret ∧ c.maxLocals = 7 ∧ s.vm.findClass R_law = some m.cls ∧ (∀ w ∈ lw_tbl, w.before #[Value.ref b] s = true) ∧ va_X b L xs s s.heap ∧ b < s.heap.size ∧ meth.locks = false ∧ (Jvm.Cond.and given_1 narrow_1).before #[Value.ref b] s = true

theorem kn_of {args : Array Value} {s : State} (hw : ∀ z9 ∈ tb, z9.before args s = true) : ∃ (dC : Nat → ClassId) (dI : Nat → Nat → Nat), va_K (dC, dI) classes [] s := by
  obtain ⟨c0, i0, h0⟩ := u_known hw in_T (hw _ k_19)
  obtain ⟨c1, i1, h1⟩ := u_known hw in_P (hw _ k_27)
  obtain ⟨c2, i2, h2⟩ := u_known hw in_D (hw _ k_135)
  obtain ⟨c3, i3, h3⟩ := u_known hw in_E (hw _ k_43)
  obtain ⟨c4, i4, h4⟩ := u_known hw in_N (hw _ k_119)
  obtain ⟨c5, i5, h5⟩ := u_known hw in_O (hw _ k_52)
  obtain ⟨c6, i6, h6⟩ := u_known hw in_M (hw _ k_719)
  refine ⟨fun k => match k with | 0 => c0 | 1 => c1 | 2 => c2 | 3 => c3 | 4 => c4 | 5 => c5 | _ => c6, fun k => match k with | 0 => i0 | 1 => i1 | 2 => i2 | 3 => i3 | 4 => i4 | 5 => i5 | _ => i6, ?_, fun k q h => by simp at h⟩
  intro c q hq
  match c, hq with
  | 0, hq => cases hq; exact h0
  | 1, hq => cases hq; exact h1
  | 2, hq => cases hq; exact h2
  | 3, hq => cases hq; exact h3
  | 4, hq => cases hq; exact h4
  | 5, hq => cases hq; exact h5
  | 6, hq => cases hq; exact h6
  | x + 7, hq => simp [classes] at hq
theorem tw_of {b : Nat} {s : State} {A : Nat → Prop} (hts : ∀ w ∈ lw_tbl, w.before #[Value.ref b] s = true) (hfl : ∀ c ∈ flatC (Jvm.Cond.and given_1 narrow_1), c.before #[Value.ref b] s = true) (hA : ∀ a : Nat, a < s.heap.size → ¬ A a) : tw A s s.heap := by
  obtain ⟨a84, -, -, -, e84, -⟩ := Cond.exactly_spec (hfl (Cond.exactly (.string "VotedTriple" 84) "java/lang/String") (by decide +kernel))
  obtain ⟨a91, -, -, -, e91, -⟩ := Cond.exactly_spec (hfl (Cond.exactly (.string "VotedTriple" 91) "java/lang/String") (by decide +kernel))
  obtain ⟨a109, -, -, -, e109, -⟩ := Cond.exactly_spec (hfl (Cond.exactly (.string "VotedTriple" 109) "java/lang/String") (by decide +kernel))
  obtain ⟨a117, -, -, -, e117, -⟩ := Cond.exactly_spec (hfl (Cond.exactly (.string "VotedTriple" 117) "java/lang/String") (by decide +kernel))
  obtain ⟨a126, -, -, -, e126, -⟩ := Cond.exactly_spec (hfl (Cond.exactly (.string "VotedTriple" 126) "java/lang/String") (by decide +kernel))
  exact ⟨tz.of (hts _ (List.mem_append_right _ (List.mem_of_getElem? (i := 420) (by decide +kernel)))) (hfl (Cond.isRef (.static "java/lang/Throwable" "UNASSIGNED_STACK" "[Ljava/lang/StackTraceElement;")) (by decide +kernel)) hA, tz.of (hts _ (List.mem_append_right _ (List.mem_of_getElem? (i := 422) (by decide +kernel)))) (hfl (Cond.isRef (.static "java/lang/Throwable" "SUPPRESSED_SENTINEL" "Ljava/util/List;")) (by decide +kernel)) hA, ⟨a84, vk_R.of (hts _ (List.mem_append_right _ (List.mem_of_getElem? (i := 434) (by decide +kernel)))) e84⟩, ⟨a91, vk_R.of (hts _ (List.mem_append_right _ (List.mem_of_getElem? (i := 470) (by decide +kernel)))) e91⟩, ⟨a109, vk_R.of (hts _ (List.mem_append_right _ (List.mem_of_getElem? (i := 688) (by decide +kernel)))) e109⟩, ⟨a117, vk_R.of (hts _ (List.mem_append_right _ (List.mem_of_getElem? (i := 702) (by decide +kernel)))) e117⟩, ⟨a126, vk_R.of (hts _ (List.mem_append_right _ (List.mem_of_getElem? (i := 716) (by decide +kernel)))) e126⟩⟩
theorem lt5 : ∀ L, L < 5 → Int32.ofNat L - 5 < 0 := by decide
set_option maxHeartbeats 8000000 in
set_option maxRecDepth 100000 in
theorem whole_start {p : Program} {e : Env} {s : State} {m : MethodId} {below : List Frame} {meth : Method} {c : Code} (l : Launch) (hst : l.stackTraces = false) {b L : Nat} {xs : Nat → Int32} (hL : L ≤ 5) (C0 : lw_At p s m meth c b L xs) : W p l e room_1 s m #[Value.ref b] below meth c s.heap [] 0 0 (lw_Z below #[Value.ref b] s) (entryFrame m ([Value.ref b] : List Value).toArray 7) := by
  obtain ⟨hx, hb, hr, hml, hown, hts, hX, hbl, hlocks, hgv⟩ := C0
  have hown : s.vm.findClass "VotedTripleLaw" = some m.cls := hown
  have hw : ∀ z9 ∈ tb, z9.before #[Value.ref b] s = true := fun z9 h => hts z9 (tb_in h)
  have hnw := nw_of hts
  obtain ⟨A, hAe⟩ : ∃ A : Nat → Prop, A = fun q => s.heap.size ≤ q := ⟨_, rfl⟩
  have hA : ∀ q : Nat, s.heap.size ≤ q → A q := fun q h => by rw [hAe]; exact h
  have hbA : ¬ A b := by rw [hAe]; exact Nat.not_le.mpr hbl
  have hAn : ∀ a : Nat, a < s.heap.size → ¬ A a := fun a h => by rw [hAe]; exact Nat.not_le.mpr h
  have htw := tw_of hts (flat_of_before _ hgv) hAn
  obtain ⟨dC, dI, hK⟩ := kn_of hw
  have hP : va_P (dC, dI) classes [] s.heap := fun k q h => by simp at h
  have hD : va_D A [] := ⟨fun i j p q h => by simp at h, fun k q h => by simp at h⟩
  have hS : va_S A s.heap s.heap [] := va_S.rf
  have hl := lv_entry ([.ref b]) (n := 7) (Nat.le_of_ble_eq_true rfl)
  rw [lg_entry_eq]
  generalize (lg_sl ([.ref b]) ++ List.replicate (7 - (lg_sl ([.ref b])).length) Slot.unset).toArray = ls at hl ⊢
  have hl : lv_has ls 7 [(0, .ref b)] := hl
  refine va_new (ci := 0) (fs := [.null, .null, .null, .null, .null, .int 0, .int 0, .int 0, .int 0, .int 0, .int 0]) (C := "VotedTriple") (T := F_T) (N := 11) hx hb hw in_T ft_T tyok_T hown (hw _ k_18) (hw _ k_19) (hw _ k_1) hK hP hD hS hA rfl df_T (Nat.le_of_ble_eq_true rfl) (Nat.le_of_ble_eq_true rfl) d_L_law_0 (fun q1 H hP hD hS => ?_)
  have hP : va_P (dC, dI) classes [(q1, .inr (0, [.null, .null, .null, .null, .null, .int 0, .int 0, .int 0, .int 0, .int 0, .int 0]))] H := hP
  have hD : va_D A [(q1, .inr (0, [.null, .null, .null, .null, .null, .int 0, .int 0, .int 0, .int 0, .int 0, .int 0]))] := hD
  refine W.widen (k := 1) (n := 11) (Nat.le_of_ble_eq_true rfl) (Nat.le_of_ble_eq_true rfl) ?_
  refine lv_dup hx hb d_L_law_3 rfl ?_
  have hPc := hP.sub (ws' := [(q1, .inr (0, [.null, .null, .null, .null, .null, .int 0, .int 0, .int 0, .int 0, .int 0, .int 0]))]) [0] rfl
  have hKc := hK.sub (tys' := []) [] rfl
  have hDc := hD.sub (ws' := [(q1, .inr (0, [.null, .null, .null, .null, .null, .int 0, .int 0, .int 0, .int 0, .int 0, .int 0]))]) [0] (by decide) rfl
  have hFc := va_free (wc := [(q1, .inr (0, [.null, .null, .null, .null, .null, .int 0, .int 0, .int 0, .int 0, .int 0, .int 0]))]) hD hS hA [0] rfl
  refine va_callv (va_runI (As := []) (rest := [.ref q1]) ⟨hx, hb, hml, hown, hw⟩ (c_T_init l dC dI q1 H.size) (cwI 0 hw (gd (k_22)) rfl rfl rfl (hw _ k_1) (hw _ k_20) (hw _ k_21) rfl (by decide +kernel) ⟨Nat.le_of_ble_eq_true rfl, Nat.le_of_ble_eq_true rfl⟩) ⟨fun a U g mk q => by obtain ⟨q0, q1, qP, qK, qD, qN⟩ := q; exact ⟨q0, q1, qP, va_K.moved (u := U) (U := U.calling g mk a) (Vm.Alike.refl U.vm) qK, qD, nw_vm (u := U) (U := U.calling g mk a) rfl qN⟩, fun U hU hW => ⟨rfl, by rw [hU], by rw [hU]; exact hPc, va_K.moved hW.alike hKc, hDc.weaken (fun _ _ _ _ => trivial), nw_warm hW hnw⟩⟩ rfl rfl hl.1 rfl (lv_room (Nat.le_of_ble_eq_true rfl)) d_L_law_4 ⟨Nat.le_of_ble_eq_true rfl, Nat.le_of_ble_eq_true rfl⟩) hS (fun q _ h => hFc q h) hFc (fun u9 t H1 locs ht hvm hr3 hB hz1 hk1 hS => ?_)
  obtain ⟨a04, a15, a26, a37, a48, pw9, cp10, er11, eo12, ek13, ew14, nw15, ok16⟩ := u9
  obtain ⟨hP1, hK1, hD1⟩ := hB
  rw [ht] at hP1
  have hK1 := va_K.moved hvm.symm hK1
  try dsimp only at hr3 hP1 hK1 hD1
  obtain ⟨hP, hD⟩ := va_join (wr := []) (w1 := [(q1, .inr (0, [.ref a04, .ref a15, .ref a26, .ref a37, .ref a48, .int 0, .int 0, .int 0, .int 0, .int 0, .int 0])), (a04, .inr (1, [.ref pw9, .int 0])), (pw9, .inl (cp10, 64, .inl (fun _ => 0))), (a26, .inr (3, [.ref er11, .int 0, .int 0, .int 0, .int 0, .int 0, .int 0, .ref eo12, .ref ew14, .int 0])), (eo12, .inr (5, [.ref ek13, .int 0])), (a37, .inr (4, [.ref nw15, .int 0])), (a48, .inr (5, [.ref ok16, .int 0]))]) hP hD [0] [] rfl rfl (by decide) (by decide) hk1 hFc hP1 hD1
  have hK := (hK.sub (tys' := []) [] rfl).app hK1
  generalize H1 = H at hP hS ⊢
  have hP : va_P (dC, dI) classes [(q1, .inr (0, [.ref a04, .ref a15, .ref a26, .ref a37, .ref a48, .int 0, .int 0, .int 0, .int 0, .int 0, .int 0])), (a04, .inr (1, [.ref pw9, .int 0])), (pw9, .inl (cp10, 64, .inl (fun _ => 0))), (a26, .inr (3, [.ref er11, .int 0, .int 0, .int 0, .int 0, .int 0, .int 0, .ref eo12, .ref ew14, .int 0])), (eo12, .inr (5, [.ref ek13, .int 0])), (a37, .inr (4, [.ref nw15, .int 0])), (a48, .inr (5, [.ref ok16, .int 0]))] H := hP
  have hD : va_D A [(q1, .inr (0, [.ref a04, .ref a15, .ref a26, .ref a37, .ref a48, .int 0, .int 0, .int 0, .int 0, .int 0, .int 0])), (a04, .inr (1, [.ref pw9, .int 0])), (pw9, .inl (cp10, 64, .inl (fun _ => 0))), (a26, .inr (3, [.ref er11, .int 0, .int 0, .int 0, .int 0, .int 0, .int 0, .ref eo12, .ref ew14, .int 0])), (eo12, .inr (5, [.ref ek13, .int 0])), (a37, .inr (4, [.ref nw15, .int 0])), (a48, .inr (5, [.ref ok16, .int 0]))] := hD
  have hK : va_K (dC, dI) classes [(cp10, .int)] s := hK
  refine W.widen (k := 22) (n := 977) (Nat.le_of_ble_eq_true rfl) (Nat.le_of_ble_eq_true rfl) ?_
  refine lv_astore_n hx hb d_L_law_7 rfl hl (by decide) rfl (fun ls hl => ?_)
  have hl : lv_has ls 7 [(1, .ref q1), (0, .ref b)] := hl
  refine va_new (ci := 6) (fs := [.int 0, .int 0, .null, .int 0, .int 0, .int 0, .int 0, .int 0, .null, .null, .null, .null, .null, .null, .null, .null, .null, .null, .null, .null, .null, .null, .null, .null, .int 0, .int 0, .int 0, .int 0, .null, .int 0, .null, .null, .null, .int 0, .int 0, .int 0, .null]) (C := "VotedTripleModel") (T := F_M) (N := 37) hx hb hw in_M ft_M tyok_M hown (hw _ k_718) (hw _ k_719) (hw _ k_8) hK hP hD hS hA rfl df_M (Nat.le_of_ble_eq_true rfl) (Nat.le_of_ble_eq_true rfl) d_L_law_8 (fun q17 H hP hD hS => ?_)
  have hP : va_P (dC, dI) classes [(q1, .inr (0, [.ref a04, .ref a15, .ref a26, .ref a37, .ref a48, .int 0, .int 0, .int 0, .int 0, .int 0, .int 0])), (a04, .inr (1, [.ref pw9, .int 0])), (pw9, .inl (cp10, 64, .inl (fun _ => 0))), (a26, .inr (3, [.ref er11, .int 0, .int 0, .int 0, .int 0, .int 0, .int 0, .ref eo12, .ref ew14, .int 0])), (eo12, .inr (5, [.ref ek13, .int 0])), (a37, .inr (4, [.ref nw15, .int 0])), (a48, .inr (5, [.ref ok16, .int 0])), (q17, .inr (6, [.int 0, .int 0, .null, .int 0, .int 0, .int 0, .int 0, .int 0, .null, .null, .null, .null, .null, .null, .null, .null, .null, .null, .null, .null, .null, .null, .null, .null, .int 0, .int 0, .int 0, .int 0, .null, .int 0, .null, .null, .null, .int 0, .int 0, .int 0, .null]))] H := hP
  have hD : va_D A [(q1, .inr (0, [.ref a04, .ref a15, .ref a26, .ref a37, .ref a48, .int 0, .int 0, .int 0, .int 0, .int 0, .int 0])), (a04, .inr (1, [.ref pw9, .int 0])), (pw9, .inl (cp10, 64, .inl (fun _ => 0))), (a26, .inr (3, [.ref er11, .int 0, .int 0, .int 0, .int 0, .int 0, .int 0, .ref eo12, .ref ew14, .int 0])), (eo12, .inr (5, [.ref ek13, .int 0])), (a37, .inr (4, [.ref nw15, .int 0])), (a48, .inr (5, [.ref ok16, .int 0])), (q17, .inr (6, [.int 0, .int 0, .null, .int 0, .int 0, .int 0, .int 0, .int 0, .null, .null, .null, .null, .null, .null, .null, .null, .null, .null, .null, .null, .null, .null, .null, .null, .int 0, .int 0, .int 0, .int 0, .null, .int 0, .null, .null, .null, .int 0, .int 0, .int 0, .null]))] := hD
  refine W.widen (k := 23) (n := 1014) (Nat.le_of_ble_eq_true rfl) (Nat.le_of_ble_eq_true rfl) ?_
  refine lv_dup hx hb d_L_law_11 rfl ?_
  have hPc := hP.sub (ws' := [(q17, .inr (6, [.int 0, .int 0, .null, .int 0, .int 0, .int 0, .int 0, .int 0, .null, .null, .null, .null, .null, .null, .null, .null, .null, .null, .null, .null, .null, .null, .null, .null, .int 0, .int 0, .int 0, .int 0, .null, .int 0, .null, .null, .null, .int 0, .int 0, .int 0, .null]))]) [7] rfl
  have hKc := hK.sub (tys' := []) [] rfl
  have hDc := hD.sub (ws' := [(q17, .inr (6, [.int 0, .int 0, .null, .int 0, .int 0, .int 0, .int 0, .int 0, .null, .null, .null, .null, .null, .null, .null, .null, .null, .null, .null, .null, .null, .null, .null, .null, .int 0, .int 0, .int 0, .int 0, .null, .int 0, .null, .null, .null, .int 0, .int 0, .int 0, .null]))]) [7] (by decide) rfl
  have hFc := va_free (wc := [(q17, .inr (6, [.int 0, .int 0, .null, .int 0, .int 0, .int 0, .int 0, .int 0, .null, .null, .null, .null, .null, .null, .null, .null, .null, .null, .null, .null, .null, .null, .null, .null, .int 0, .int 0, .int 0, .int 0, .null, .int 0, .null, .null, .null, .int 0, .int 0, .int 0, .null]))]) hD hS hA [7] rfl
  refine va_callv (va_runI (As := []) (rest := [.ref q17]) ⟨hx, hb, hml, hown, hw⟩ (c_M_init l dC dI q17 H.size) (cwI 0 hw (gd (k_722)) rfl rfl rfl (hw _ k_8) (hw _ k_720) (hw _ k_721) rfl (by decide +kernel) ⟨Nat.le_of_ble_eq_true rfl, Nat.le_of_ble_eq_true rfl⟩) ⟨fun a U g mk q => by obtain ⟨q0, q1, qP, qK, qD⟩ := q; exact ⟨q0, q1, qP, va_K.moved (u := U) (U := U.calling g mk a) (Vm.Alike.refl U.vm) qK, qD⟩, fun U hU hW => ⟨rfl, by rw [hU], by rw [hU]; exact hPc, va_K.moved hW.alike hKc, hDc.weaken (fun _ _ _ _ => trivial)⟩⟩ rfl rfl hl.1 rfl (lv_room (Nat.le_of_ble_eq_true rfl)) d_L_law_12 ⟨Nat.le_of_ble_eq_true rfl, Nat.le_of_ble_eq_true rfl⟩) hS (fun q _ h => hFc q h) hFc (fun u9 t H1 locs ht hvm hr19 hB hz1 hk1 hS => ?_)
  obtain ⟨g220, g821, g922, g1023, g1124, g1225, g1326, g1427, g1528, g1629, g1730, g1831, g1932, g2033, g2134, g2235, g2336, g2837, g3038, g3139, g3240, g3641, cA42⟩ := u9
  obtain ⟨hP1, hK1, hD1⟩ := hB
  rw [ht] at hP1
  have hK1 := va_K.moved hvm.symm hK1
  try dsimp only at hr19 hP1 hK1 hD1
  obtain ⟨hP, hD⟩ := va_join (wr := [(q1, .inr (0, [.ref a04, .ref a15, .ref a26, .ref a37, .ref a48, .int 0, .int 0, .int 0, .int 0, .int 0, .int 0])), (a04, .inr (1, [.ref pw9, .int 0])), (pw9, .inl (cp10, 64, .inl (fun _ => 0))), (a26, .inr (3, [.ref er11, .int 0, .int 0, .int 0, .int 0, .int 0, .int 0, .ref eo12, .ref ew14, .int 0])), (eo12, .inr (5, [.ref ek13, .int 0])), (a37, .inr (4, [.ref nw15, .int 0])), (a48, .inr (5, [.ref ok16, .int 0]))]) (w1 := [(q17, .inr (6, [.int 0, .int 0, .ref g220, .int 0, .int 0, .int 0, .int 0, .int 0, .ref g821, .ref g922, .ref g1023, .ref g1124, .ref g1225, .ref g1326, .ref g1427, .ref g1528, .ref g1629, .ref g1730, .ref g1831, .ref g1932, .ref g2033, .ref g2134, .ref g2235, .ref g2336, .int 0, .int 0, .int 0, .int 0, .ref g2837, .int 0, .ref g3038, .ref g3139, .ref g3240, .int 0, .int 0, .int 0, .ref g3641])), (g220, .inl (cA42, 64, .inl (fun _ => 0)))]) hP hD [7] [0, 1, 2, 3, 4, 5, 6] rfl rfl (by decide) (by decide) hk1 hFc hP1 hD1
  have hK := (hK.sub (tys' := [(cp10, .int)]) [0] rfl).app hK1
  generalize H1 = H at hP hS ⊢
  have hP : va_P (dC, dI) classes [(q1, .inr (0, [.ref a04, .ref a15, .ref a26, .ref a37, .ref a48, .int 0, .int 0, .int 0, .int 0, .int 0, .int 0])), (a04, .inr (1, [.ref pw9, .int 0])), (pw9, .inl (cp10, 64, .inl (fun _ => 0))), (a26, .inr (3, [.ref er11, .int 0, .int 0, .int 0, .int 0, .int 0, .int 0, .ref eo12, .ref ew14, .int 0])), (eo12, .inr (5, [.ref ek13, .int 0])), (a37, .inr (4, [.ref nw15, .int 0])), (a48, .inr (5, [.ref ok16, .int 0])), (q17, .inr (6, [.int 0, .int 0, .ref g220, .int 0, .int 0, .int 0, .int 0, .int 0, .ref g821, .ref g922, .ref g1023, .ref g1124, .ref g1225, .ref g1326, .ref g1427, .ref g1528, .ref g1629, .ref g1730, .ref g1831, .ref g1932, .ref g2033, .ref g2134, .ref g2235, .ref g2336, .int 0, .int 0, .int 0, .int 0, .ref g2837, .int 0, .ref g3038, .ref g3139, .ref g3240, .int 0, .int 0, .int 0, .ref g3641])), (g220, .inl (cA42, 64, .inl (fun _ => 0)))] H := hP
  have hD : va_D A [(q1, .inr (0, [.ref a04, .ref a15, .ref a26, .ref a37, .ref a48, .int 0, .int 0, .int 0, .int 0, .int 0, .int 0])), (a04, .inr (1, [.ref pw9, .int 0])), (pw9, .inl (cp10, 64, .inl (fun _ => 0))), (a26, .inr (3, [.ref er11, .int 0, .int 0, .int 0, .int 0, .int 0, .int 0, .ref eo12, .ref ew14, .int 0])), (eo12, .inr (5, [.ref ek13, .int 0])), (a37, .inr (4, [.ref nw15, .int 0])), (a48, .inr (5, [.ref ok16, .int 0])), (q17, .inr (6, [.int 0, .int 0, .ref g220, .int 0, .int 0, .int 0, .int 0, .int 0, .ref g821, .ref g922, .ref g1023, .ref g1124, .ref g1225, .ref g1326, .ref g1427, .ref g1528, .ref g1629, .ref g1730, .ref g1831, .ref g1932, .ref g2033, .ref g2134, .ref g2235, .ref g2336, .int 0, .int 0, .int 0, .int 0, .ref g2837, .int 0, .ref g3038, .ref g3139, .ref g3240, .int 0, .int 0, .int 0, .ref g3641])), (g220, .inl (cA42, 64, .inl (fun _ => 0)))] := hD
  have hK : va_K (dC, dI) classes [(cp10, .int), (cA42, .int)] s := hK
  refine W.widen (k := 45) (n := 1944) (Nat.le_of_ble_eq_true rfl) (Nat.le_of_ble_eq_true rfl) ?_
  refine lv_astore_n hx hb d_L_law_15 rfl hl (by decide) rfl (fun ls hl => ?_)
  have hl : lv_has ls 7 [(2, .ref q17), (1, .ref q1), (0, .ref b)] := hl
  refine lv_iconst (v := 1) hx hb d_L_law_16 (by decide) ?_
  refine va_newa (atype := .long) (ty := .long) (a0 := (1, .inr (.inl (fun _ => 0)))) hx hb (hw _ k_999) rfl hK hP hD hS hA (fun _ => rfl) (by decide) (by decide) (by decide) (Nat.le_of_ble_eq_true rfl) (Nat.le_of_ble_eq_true rfl) d_L_law_17 (fun q43 cA44 H hK hP hD hS => ?_)
  have hK : va_K (dC, dI) classes [(cp10, .int), (cA42, .int), (cA44, .long)] s := hK
  have hP : va_P (dC, dI) classes [(q1, .inr (0, [.ref a04, .ref a15, .ref a26, .ref a37, .ref a48, .int 0, .int 0, .int 0, .int 0, .int 0, .int 0])), (a04, .inr (1, [.ref pw9, .int 0])), (pw9, .inl (cp10, 64, .inl (fun _ => 0))), (a26, .inr (3, [.ref er11, .int 0, .int 0, .int 0, .int 0, .int 0, .int 0, .ref eo12, .ref ew14, .int 0])), (eo12, .inr (5, [.ref ek13, .int 0])), (a37, .inr (4, [.ref nw15, .int 0])), (a48, .inr (5, [.ref ok16, .int 0])), (q17, .inr (6, [.int 0, .int 0, .ref g220, .int 0, .int 0, .int 0, .int 0, .int 0, .ref g821, .ref g922, .ref g1023, .ref g1124, .ref g1225, .ref g1326, .ref g1427, .ref g1528, .ref g1629, .ref g1730, .ref g1831, .ref g1932, .ref g2033, .ref g2134, .ref g2235, .ref g2336, .int 0, .int 0, .int 0, .int 0, .ref g2837, .int 0, .ref g3038, .ref g3139, .ref g3240, .int 0, .int 0, .int 0, .ref g3641])), (g220, .inl (cA42, 64, .inl (fun _ => 0))), (q43, .inl (cA44, 1, .inr (.inl (fun _ => 0))))] H := hP
  have hD : va_D A [(q1, .inr (0, [.ref a04, .ref a15, .ref a26, .ref a37, .ref a48, .int 0, .int 0, .int 0, .int 0, .int 0, .int 0])), (a04, .inr (1, [.ref pw9, .int 0])), (pw9, .inl (cp10, 64, .inl (fun _ => 0))), (a26, .inr (3, [.ref er11, .int 0, .int 0, .int 0, .int 0, .int 0, .int 0, .ref eo12, .ref ew14, .int 0])), (eo12, .inr (5, [.ref ek13, .int 0])), (a37, .inr (4, [.ref nw15, .int 0])), (a48, .inr (5, [.ref ok16, .int 0])), (q17, .inr (6, [.int 0, .int 0, .ref g220, .int 0, .int 0, .int 0, .int 0, .int 0, .ref g821, .ref g922, .ref g1023, .ref g1124, .ref g1225, .ref g1326, .ref g1427, .ref g1528, .ref g1629, .ref g1730, .ref g1831, .ref g1932, .ref g2033, .ref g2134, .ref g2235, .ref g2336, .int 0, .int 0, .int 0, .int 0, .ref g2837, .int 0, .ref g3038, .ref g3139, .ref g3240, .int 0, .int 0, .int 0, .ref g3641])), (g220, .inl (cA42, 64, .inl (fun _ => 0))), (q43, .inl (cA44, 1, .inr (.inl (fun _ => 0))))] := hD
  refine W.widen (k := 46) (n := 1945) (Nat.le_of_ble_eq_true rfl) (Nat.le_of_ble_eq_true rfl) ?_
  refine lv_astore_n hx hb d_L_law_19 rfl hl (by decide) rfl (fun ls hl => ?_)
  have hl : lv_has ls 7 [(3, .ref q43), (2, .ref q17), (1, .ref q1), (0, .ref b)] := hl
  refine lv_iconst (v := 0) hx hb d_L_law_20 (by decide) ?_
  refine lv_istore hx hb d_L_law_21 hl (by decide) rfl (fun ls hl => ?_)
  have hl : lv_has ls 7 [(4, .int 0), (3, .ref q43), (2, .ref q17), (1, .ref q1), (0, .ref b)] := hl
  refine lv_iload hx hb d_L_law_23 (lv_at hl 0 rfl) ?_
  refine lv_aload_n hx hb d_L_law_25 rfl (lv_at hl 4 rfl) ?_
  refine va_slen hx hb hX hbl hbA hS d_L_law_26 ?_
  refine lv_iconst (v := 5) hx hb d_L_law_27 (by decide) ?_
  refine lv_isub hx hb d_L_law_28 ?_
  rcases Nat.lt_or_ge L 5 with h5 | h5
  · refine lv_icmp_gt (tgt := 711) hx hb d_L_law_29 rfl (fun _ => ?_) (fun h9 => absurd (lt5 L h5) h9)
    refine lv_iconst (v := 1) hx hb d_L_law_711 (by decide) ?_
    refine va_forget (fun q hq => by have h9 := hS.2.2 q hq; rw [hAe] at h9; exact h9) ?_
    refine W.widen (k := 600002) (n := 7302232) (Nat.le_of_ble_eq_true rfl) (Nat.le_of_ble_eq_true rfl) ?_
    exact lw_ret hx hb hr hlocks d_L_law_712
  · obtain rfl : L = 5 := Nat.le_antisymm hL h5
    refine lv_icmp_gt (tgt := 711) hx hb d_L_law_29 rfl (fun h9 => absurd h9 (by decide)) (fun _ => ?_)
    refine lv_aload_n hx hb d_L_law_32 rfl (lv_at hl 4 rfl) ?_
    refine lv_iload hx hb d_L_law_33 (lv_at hl 0 rfl) ?_
    refine va_sld hx hb hX hbl hbA hS (by unfold vp_in; decide) d_L_law_35 ?_
    refine lv_topi (fun y45 e46 => ?_)
    refine lv_bipush (v := 15) hx hb d_L_law_36 (by decide) ?_
    refine lv_iand hx hb d_L_law_38 ?_
    rcases sw14 (y45 &&& 15) with hs47 | hs47 | hs47 | hs47 | hs47 | hs47 | hs47 | hs47 | hs47 | hs47 | hs47 | hs47 | hs47 | hs47 | hs47 | hs47
    · refine lv_tableIn (off := 73) (tgt := 112) hx hb d_L_law_39 (by rw [hs47]; decide) (by rw [hs47]; decide) (by rw [hs47]; decide) rfl ?_
      refine lv_aload_n hx hb d_L_law_112 rfl (lv_at hl 3 rfl) ?_
      refine lv_aload_n hx hb d_L_law_113 rfl (lv_at hl 4 rfl) ?_
      refine lv_iload hx hb d_L_law_114 (lv_at hl 0 rfl) ?_
      refine lv_iconst (v := 1) hx hb d_L_law_116 (by decide) ?_
      refine lv_iadd hx hb d_L_law_117 ?_
      refine va_sld hx hb hX hbl hbA hS (by unfold vp_in; decide) d_L_law_118 ?_
      refine lv_topi (fun y48 e49 => ?_)
      refine lv_aload_n hx hb d_L_law_119 rfl (lv_at hl 4 rfl) ?_
      refine lv_iload hx hb d_L_law_120 (lv_at hl 0 rfl) ?_
      refine lv_iconst (v := 2) hx hb d_L_law_122 (by decide) ?_
      refine lv_iadd hx hb d_L_law_123 ?_
      refine va_sld hx hb hX hbl hbA hS (by unfold vp_in; decide) d_L_law_124 ?_
      refine lv_topi (fun y50 e51 => ?_)
      have hPc := hP.sub (ws' := [(q1, .inr (0, [.ref a04, .ref a15, .ref a26, .ref a37, .ref a48, .int 0, .int 0, .int 0, .int 0, .int 0, .int 0])), (a04, .inr (1, [.ref pw9, .int 0])), (pw9, .inl (cp10, 64, .inl (fun _ => 0)))]) [0, 1, 2] rfl
      have hKc := hK.sub (tys' := [(cp10, .int)]) [0] rfl
      have hDc := hD.sub (ws' := [(q1, .inr (0, [.ref a04, .ref a15, .ref a26, .ref a37, .ref a48, .int 0, .int 0, .int 0, .int 0, .int 0, .int 0])), (a04, .inr (1, [.ref pw9, .int 0])), (pw9, .inl (cp10, 64, .inl (fun _ => 0)))]) [0, 1, 2] (by decide) rfl
      have hFc := va_free (wc := [(q1, .inr (0, [.ref a04, .ref a15, .ref a26, .ref a37, .ref a48, .int 0, .int 0, .int 0, .int 0, .int 0, .int 0])), (a04, .inr (1, [.ref pw9, .int 0])), (pw9, .inl (cp10, 64, .inl (fun _ => 0)))]) hD hS hA [0, 1, 2] rfl
      refine va_calli (va_runV (C := "VotedTriple") (As := [.int y48, .int y50]) (rest := []) ⟨hx, hb, hml, hown, hw⟩ (c_T_program_0 l dC dI q1 a04 a15 a26 a37 a48 0 0 0 0 0 pw9 cp10 (fun _ => 0) y48 y50 H.size) (cwV 2 hw (gdV (k_231) (k_228) (k_229) (k_230) (k_1)) rfl rfl rfl (by decide +kernel) ⟨Nat.le_of_ble_eq_true rfl, Nat.le_of_ble_eq_true rfl⟩) ⟨fun a U g mk q => by obtain ⟨q0, q1, qP, qK, qD⟩ := q; exact ⟨q0, q1, qP, va_K.moved (u := U) (U := U.calling g mk a) (Vm.Alike.refl U.vm) qK, qD⟩, va_recv hK hP rfl (q0 := 0) rfl, fun U hU hW => ⟨rfl, by rw [hU], by rw [hU]; exact hPc, va_K.moved hW.alike hKc, hDc.weaken (fun _ _ _ _ => trivial)⟩⟩ rfl rfl hl.1 rfl (lv_room (Nat.le_of_ble_eq_true rfl)) d_L_law_125 ⟨Nat.le_of_ble_eq_true rfl, Nat.le_of_ble_eq_true rfl⟩) hS (fun q _ h => hFc q h) hFc (fun r52 u9 t H1 locs ht hvm hr53 hB hz1 hk1 hS => ?_)
      obtain ⟨hP1, hK1, hD1⟩ := hB
      rw [ht] at hP1
      have hK1 := va_K.moved hvm.symm hK1
      try dsimp only at hr53 hP1 hK1 hD1
      obtain ⟨hP, hD⟩ := va_join (wr := [(a26, .inr (3, [.ref er11, .int 0, .int 0, .int 0, .int 0, .int 0, .int 0, .ref eo12, .ref ew14, .int 0])), (eo12, .inr (5, [.ref ek13, .int 0])), (a37, .inr (4, [.ref nw15, .int 0])), (a48, .inr (5, [.ref ok16, .int 0])), (q17, .inr (6, [.int 0, .int 0, .ref g220, .int 0, .int 0, .int 0, .int 0, .int 0, .ref g821, .ref g922, .ref g1023, .ref g1124, .ref g1225, .ref g1326, .ref g1427, .ref g1528, .ref g1629, .ref g1730, .ref g1831, .ref g1932, .ref g2033, .ref g2134, .ref g2235, .ref g2336, .int 0, .int 0, .int 0, .int 0, .ref g2837, .int 0, .ref g3038, .ref g3139, .ref g3240, .int 0, .int 0, .int 0, .ref g3641])), (g220, .inl (cA42, 64, .inl (fun _ => 0))), (q43, .inl (cA44, 1, .inr (.inl (fun _ => 0))))]) (w1 := []) hP hD [0, 1, 2] [3, 4, 5, 6, 7, 8, 9] rfl rfl (by decide) (by decide) hk1 hFc hP1 hD1
      have hK := (hK.sub (tys' := [(cA42, .int), (cA44, .long)]) [1, 2] rfl).app hK1
      generalize H1 = H at hP hS ⊢
      have hP : va_P (dC, dI) classes [(a26, .inr (3, [.ref er11, .int 0, .int 0, .int 0, .int 0, .int 0, .int 0, .ref eo12, .ref ew14, .int 0])), (eo12, .inr (5, [.ref ek13, .int 0])), (a37, .inr (4, [.ref nw15, .int 0])), (a48, .inr (5, [.ref ok16, .int 0])), (q17, .inr (6, [.int 0, .int 0, .ref g220, .int 0, .int 0, .int 0, .int 0, .int 0, .ref g821, .ref g922, .ref g1023, .ref g1124, .ref g1225, .ref g1326, .ref g1427, .ref g1528, .ref g1629, .ref g1730, .ref g1831, .ref g1932, .ref g2033, .ref g2134, .ref g2235, .ref g2336, .int 0, .int 0, .int 0, .int 0, .ref g2837, .int 0, .ref g3038, .ref g3139, .ref g3240, .int 0, .int 0, .int 0, .ref g3641])), (g220, .inl (cA42, 64, .inl (fun _ => 0))), (q43, .inl (cA44, 1, .inr (.inl (fun _ => 0))))] H := hP
      have hD : va_D A [(a26, .inr (3, [.ref er11, .int 0, .int 0, .int 0, .int 0, .int 0, .int 0, .ref eo12, .ref ew14, .int 0])), (eo12, .inr (5, [.ref ek13, .int 0])), (a37, .inr (4, [.ref nw15, .int 0])), (a48, .inr (5, [.ref ok16, .int 0])), (q17, .inr (6, [.int 0, .int 0, .ref g220, .int 0, .int 0, .int 0, .int 0, .int 0, .ref g821, .ref g922, .ref g1023, .ref g1124, .ref g1225, .ref g1326, .ref g1427, .ref g1528, .ref g1629, .ref g1730, .ref g1831, .ref g1932, .ref g2033, .ref g2134, .ref g2235, .ref g2336, .int 0, .int 0, .int 0, .int 0, .ref g2837, .int 0, .ref g3038, .ref g3139, .ref g3240, .int 0, .int 0, .int 0, .ref g3641])), (g220, .inl (cA42, 64, .inl (fun _ => 0))), (q43, .inl (cA44, 1, .inr (.inl (fun _ => 0))))] := hD
      have hK : va_K (dC, dI) classes [(cA42, .int), (cA44, .long)] s := hK
      refine W.widen (k := 46) (n := 1945) (Nat.le_of_ble_eq_true rfl) (Nat.le_of_ble_eq_true rfl) ?_
      obtain rfl : r52 = bI (prF y48 y50) := hr53
      refine lv_aload_n hx hb d_L_law_128 rfl (lv_at hl 2 rfl) ?_
      refine lv_aload_n hx hb d_L_law_129 rfl (lv_at hl 4 rfl) ?_
      refine lv_iload hx hb d_L_law_130 (lv_at hl 0 rfl) ?_
      refine lv_iconst (v := 1) hx hb d_L_law_132 (by decide) ?_
      refine lv_iadd hx hb d_L_law_133 ?_
      refine va_sld hx hb hX hbl hbA hS (by unfold vp_in; decide) d_L_law_134 ?_
      refine lv_topi (fun y54 e55 => ?_)
      obtain rfl : y48 = y54 := e49.trans e55.symm
      refine lv_aload_n hx hb d_L_law_135 rfl (lv_at hl 4 rfl) ?_
      refine lv_iload hx hb d_L_law_136 (lv_at hl 0 rfl) ?_
      refine lv_iconst (v := 2) hx hb d_L_law_138 (by decide) ?_
      refine lv_iadd hx hb d_L_law_139 ?_
      refine va_sld hx hb hX hbl hbA hS (by unfold vp_in; decide) d_L_law_140 ?_
      refine lv_topi (fun y56 e57 => ?_)
      obtain rfl : y50 = y56 := e51.trans e57.symm
      have hPc := hP.sub (ws' := [(q17, .inr (6, [.int 0, .int 0, .ref g220, .int 0, .int 0, .int 0, .int 0, .int 0, .ref g821, .ref g922, .ref g1023, .ref g1124, .ref g1225, .ref g1326, .ref g1427, .ref g1528, .ref g1629, .ref g1730, .ref g1831, .ref g1932, .ref g2033, .ref g2134, .ref g2235, .ref g2336, .int 0, .int 0, .int 0, .int 0, .ref g2837, .int 0, .ref g3038, .ref g3139, .ref g3240, .int 0, .int 0, .int 0, .ref g3641])), (g220, .inl (cA42, 64, .inl (fun _ => 0)))]) [4, 5] rfl
      have hKc := hK.sub (tys' := [(cA42, .int)]) [0] rfl
      have hDc := hD.sub (ws' := [(q17, .inr (6, [.int 0, .int 0, .ref g220, .int 0, .int 0, .int 0, .int 0, .int 0, .ref g821, .ref g922, .ref g1023, .ref g1124, .ref g1225, .ref g1326, .ref g1427, .ref g1528, .ref g1629, .ref g1730, .ref g1831, .ref g1932, .ref g2033, .ref g2134, .ref g2235, .ref g2336, .int 0, .int 0, .int 0, .int 0, .ref g2837, .int 0, .ref g3038, .ref g3139, .ref g3240, .int 0, .int 0, .int 0, .ref g3641])), (g220, .inl (cA42, 64, .inl (fun _ => 0)))]) [4, 5] (by decide) rfl
      have hFc := va_free (wc := [(q17, .inr (6, [.int 0, .int 0, .ref g220, .int 0, .int 0, .int 0, .int 0, .int 0, .ref g821, .ref g922, .ref g1023, .ref g1124, .ref g1225, .ref g1326, .ref g1427, .ref g1528, .ref g1629, .ref g1730, .ref g1831, .ref g1932, .ref g2033, .ref g2134, .ref g2235, .ref g2336, .int 0, .int 0, .int 0, .int 0, .ref g2837, .int 0, .ref g3038, .ref g3139, .ref g3240, .int 0, .int 0, .int 0, .ref g3641])), (g220, .inl (cA42, 64, .inl (fun _ => 0)))]) hD hS hA [4, 5] rfl
      refine va_calli (va_runV (C := "VotedTripleModel") (As := [.int y48, .int y50]) (rest := [.int (bI (prF y48 y50))]) ⟨hx, hb, hml, hown, hw⟩ (c_M_program_0 l dC dI q17 g220 g821 g922 g1023 g1124 g1225 g1326 g1427 g1528 g1629 g1730 g1831 g1932 g2033 g2134 g2235 g2336 g2837 g3038 g3139 g3240 g3641 cA42 (fun _ => 0) y48 y50 H.size) (cwV 2 hw (gdV (k_843) (k_840) (k_841) (k_842) (k_8)) rfl rfl rfl (by decide +kernel) ⟨Nat.le_of_ble_eq_true rfl, Nat.le_of_ble_eq_true rfl⟩) ⟨fun a U g mk q => by obtain ⟨q0, q1, qP, qK, qD⟩ := q; exact ⟨q0, q1, qP, va_K.moved (u := U) (U := U.calling g mk a) (Vm.Alike.refl U.vm) qK, qD⟩, va_recv hK hP rfl (q0 := 4) rfl, fun U hU hW => ⟨rfl, by rw [hU], by rw [hU]; exact hPc, va_K.moved hW.alike hKc, hDc.weaken (fun _ _ _ _ => trivial)⟩⟩ rfl rfl hl.1 rfl (lv_room (Nat.le_of_ble_eq_true rfl)) d_L_law_141 ⟨Nat.le_of_ble_eq_true rfl, Nat.le_of_ble_eq_true rfl⟩) hS (fun q _ h => hFc q h) hFc (fun r58 u9 t H1 locs ht hvm hr59 hB hz1 hk1 hS => ?_)
      obtain ⟨hP1, hK1, hD1⟩ := hB
      rw [ht] at hP1
      have hK1 := va_K.moved hvm.symm hK1
      try dsimp only at hr59 hP1 hK1 hD1
      obtain ⟨hP, hD⟩ := va_join (wr := [(a26, .inr (3, [.ref er11, .int 0, .int 0, .int 0, .int 0, .int 0, .int 0, .ref eo12, .ref ew14, .int 0])), (eo12, .inr (5, [.ref ek13, .int 0])), (a37, .inr (4, [.ref nw15, .int 0])), (a48, .inr (5, [.ref ok16, .int 0])), (q43, .inl (cA44, 1, .inr (.inl (fun _ => 0))))]) (w1 := []) hP hD [4, 5] [0, 1, 2, 3, 6] rfl rfl (by decide) (by decide) hk1 hFc hP1 hD1
      have hK := (hK.sub (tys' := [(cA44, .long)]) [1] rfl).app hK1
      generalize H1 = H at hP hS ⊢
      have hP : va_P (dC, dI) classes [(a26, .inr (3, [.ref er11, .int 0, .int 0, .int 0, .int 0, .int 0, .int 0, .ref eo12, .ref ew14, .int 0])), (eo12, .inr (5, [.ref ek13, .int 0])), (a37, .inr (4, [.ref nw15, .int 0])), (a48, .inr (5, [.ref ok16, .int 0])), (q43, .inl (cA44, 1, .inr (.inl (fun _ => 0))))] H := hP
      have hD : va_D A [(a26, .inr (3, [.ref er11, .int 0, .int 0, .int 0, .int 0, .int 0, .int 0, .ref eo12, .ref ew14, .int 0])), (eo12, .inr (5, [.ref ek13, .int 0])), (a37, .inr (4, [.ref nw15, .int 0])), (a48, .inr (5, [.ref ok16, .int 0])), (q43, .inl (cA44, 1, .inr (.inl (fun _ => 0))))] := hD
      have hK : va_K (dC, dI) classes [(cA44, .long)] s := hK
      refine W.widen (k := 46) (n := 1945) (Nat.le_of_ble_eq_true rfl) (Nat.le_of_ble_eq_true rfl) ?_
      obtain rfl : r58 = bI (prF y48 y50) := hr59
      refine lv_icmp_eq (tgt := 705) hx hb d_L_law_144 rfl (fun hc60 => ?_) (fun hc60 => by first | exact absurd (rfl) hc60 | exact absurd hc60 (rfl))
      refine lv_iinc (k := 0) (v := 5) hx hb d_L_law_705 hl rfl rfl (by decide) rfl (fun ls hl => ?_)
      have hl : lv_has ls 7 [(4, .int 5), (3, .ref q43), (2, .ref q17), (1, .ref q1), (0, .ref b)] := hl
      refine lv_goto (tgt := 23) hx hb d_L_law_708 rfl ?_
      refine lv_iload hx hb d_L_law_23 (lv_at hl 0 rfl) ?_
      refine lv_aload_n hx hb d_L_law_25 rfl (lv_at hl 4 rfl) ?_
      refine va_slen hx hb hX hbl hbA hS d_L_law_26 ?_
      refine lv_iconst (v := 5) hx hb d_L_law_27 (by decide) ?_
      refine lv_isub hx hb d_L_law_28 ?_
      refine lv_icmp_gt (tgt := 711) hx hb d_L_law_29 rfl (fun _ => ?_) (fun h9 => absurd (by decide) h9)
      refine lv_iconst (v := 1) hx hb d_L_law_711 (by decide) ?_
      refine va_forget (fun q hq => by have h9 := hS.2.2 q hq; rw [hAe] at h9; exact h9) ?_
      refine W.widen (k := 600002) (n := 7302232) (Nat.le_of_ble_eq_true rfl) (Nat.le_of_ble_eq_true rfl) ?_
      exact lw_ret hx hb hr hlocks d_L_law_712
    · refine lv_tableIn (off := 110) (tgt := 149) hx hb d_L_law_39 (by rw [hs47]; decide) (by rw [hs47]; decide) (by rw [hs47]; decide) rfl ?_
      refine lv_aload_n hx hb d_L_law_149 rfl (lv_at hl 3 rfl) ?_
      have hPc := hP.sub (ws' := [(q1, .inr (0, [.ref a04, .ref a15, .ref a26, .ref a37, .ref a48, .int 0, .int 0, .int 0, .int 0, .int 0, .int 0])), (a04, .inr (1, [.ref pw9, .int 0]))]) [0, 1] rfl
      have hKc := hK.sub (tys' := []) [] rfl
      refine vp_callSi (va_runV (C := "VotedTriple") (As := []) (rest := []) ⟨hx, hb, hml, hown, hw⟩ (c_T_start_0 l dC dI q1 a04 a15 a26 a37 a48 0 0 0 0 0 pw9) (cwV 0 hw (gdV (k_257) (k_254) (k_255) (k_256) (k_1)) rfl rfl rfl (by decide +kernel) ⟨Nat.le_of_ble_eq_true rfl, Nat.le_of_ble_eq_true rfl⟩) ⟨fun a U g mk q => ⟨q.1, q.2.1, va_K.moved (u := U) (U := U.calling g mk a) (Vm.Alike.refl U.vm) q.2.2⟩, va_recv hK hP rfl (q0 := 0) rfl, fun U hU hW => ⟨rfl, by rw [hU]; exact hPc, va_K.moved hW.alike hKc⟩⟩ rfl rfl hl.1 rfl (lv_room (Nat.le_of_ble_eq_true rfl)) d_L_law_150 ⟨Nat.le_of_ble_eq_true rfl, Nat.le_of_ble_eq_true rfl⟩).run (fun r61 hr62 => ?_)
      subst hr62
      refine lv_aload_n hx hb d_L_law_153 rfl (lv_at hl 2 rfl) ?_
      have hPc := hP.sub (ws' := [(q17, .inr (6, [.int 0, .int 0, .ref g220, .int 0, .int 0, .int 0, .int 0, .int 0, .ref g821, .ref g922, .ref g1023, .ref g1124, .ref g1225, .ref g1326, .ref g1427, .ref g1528, .ref g1629, .ref g1730, .ref g1831, .ref g1932, .ref g2033, .ref g2134, .ref g2235, .ref g2336, .int 0, .int 0, .int 0, .int 0, .ref g2837, .int 0, .ref g3038, .ref g3139, .ref g3240, .int 0, .int 0, .int 0, .ref g3641]))]) [7] rfl
      have hKc := hK.sub (tys' := []) [] rfl
      have hDc := hD.sub (ws' := [(q17, .inr (6, [.int 0, .int 0, .ref g220, .int 0, .int 0, .int 0, .int 0, .int 0, .ref g821, .ref g922, .ref g1023, .ref g1124, .ref g1225, .ref g1326, .ref g1427, .ref g1528, .ref g1629, .ref g1730, .ref g1831, .ref g1932, .ref g2033, .ref g2134, .ref g2235, .ref g2336, .int 0, .int 0, .int 0, .int 0, .ref g2837, .int 0, .ref g3038, .ref g3139, .ref g3240, .int 0, .int 0, .int 0, .ref g3641]))]) [7] (by decide) rfl
      have hFc := va_free (wc := [(q17, .inr (6, [.int 0, .int 0, .ref g220, .int 0, .int 0, .int 0, .int 0, .int 0, .ref g821, .ref g922, .ref g1023, .ref g1124, .ref g1225, .ref g1326, .ref g1427, .ref g1528, .ref g1629, .ref g1730, .ref g1831, .ref g1932, .ref g2033, .ref g2134, .ref g2235, .ref g2336, .int 0, .int 0, .int 0, .int 0, .ref g2837, .int 0, .ref g3038, .ref g3139, .ref g3240, .int 0, .int 0, .int 0, .ref g3641]))]) hD hS hA [7] rfl
      refine va_calli (va_runV (C := "VotedTripleModel") (As := []) (rest := [.int 0]) ⟨hx, hb, hml, hown, hw⟩ (c_M_start_0 l dC dI q17 g220 g821 g922 g1023 g1124 g1225 g1326 g1427 g1528 g1629 g1730 g1831 g1932 g2033 g2134 g2235 g2336 g2837 g3038 g3139 g3240 g3641 H.size) (cwV 0 hw (gdV (k_856) (k_853) (k_854) (k_855) (k_8)) rfl rfl rfl (by decide +kernel) ⟨Nat.le_of_ble_eq_true rfl, Nat.le_of_ble_eq_true rfl⟩) ⟨fun a U g mk q => by obtain ⟨q0, q1, qP, qK, qD⟩ := q; exact ⟨q0, q1, qP, va_K.moved (u := U) (U := U.calling g mk a) (Vm.Alike.refl U.vm) qK, qD⟩, va_recv hK hP rfl (q0 := 7) rfl, fun U hU hW => ⟨rfl, by rw [hU], by rw [hU]; exact hPc, va_K.moved hW.alike hKc, hDc.weaken (fun _ _ _ _ => trivial)⟩⟩ rfl rfl hl.1 rfl (lv_room (Nat.le_of_ble_eq_true rfl)) d_L_law_154 ⟨Nat.le_of_ble_eq_true rfl, Nat.le_of_ble_eq_true rfl⟩) hS (fun q _ h => hFc q h) hFc (fun r63 u9 t H1 locs ht hvm hr64 hB hz1 hk1 hS => ?_)
      obtain ⟨hP1, hK1, hD1⟩ := hB
      rw [ht] at hP1
      have hK1 := va_K.moved hvm.symm hK1
      try dsimp only at hr64 hP1 hK1 hD1
      obtain ⟨hP, hD⟩ := va_join (wr := [(q1, .inr (0, [.ref a04, .ref a15, .ref a26, .ref a37, .ref a48, .int 0, .int 0, .int 0, .int 0, .int 0, .int 0])), (a04, .inr (1, [.ref pw9, .int 0])), (pw9, .inl (cp10, 64, .inl (fun _ => 0))), (a26, .inr (3, [.ref er11, .int 0, .int 0, .int 0, .int 0, .int 0, .int 0, .ref eo12, .ref ew14, .int 0])), (eo12, .inr (5, [.ref ek13, .int 0])), (a37, .inr (4, [.ref nw15, .int 0])), (a48, .inr (5, [.ref ok16, .int 0])), (g220, .inl (cA42, 64, .inl (fun _ => 0))), (q43, .inl (cA44, 1, .inr (.inl (fun _ => 0))))]) (w1 := []) hP hD [7] [0, 1, 2, 3, 4, 5, 6, 8, 9] rfl rfl (by decide) (by decide) hk1 hFc hP1 hD1
      have hK := (hK.sub (tys' := [(cp10, .int), (cA42, .int), (cA44, .long)]) [0, 1, 2] rfl).app hK1
      generalize H1 = H at hP hS ⊢
      have hP : va_P (dC, dI) classes [(q1, .inr (0, [.ref a04, .ref a15, .ref a26, .ref a37, .ref a48, .int 0, .int 0, .int 0, .int 0, .int 0, .int 0])), (a04, .inr (1, [.ref pw9, .int 0])), (pw9, .inl (cp10, 64, .inl (fun _ => 0))), (a26, .inr (3, [.ref er11, .int 0, .int 0, .int 0, .int 0, .int 0, .int 0, .ref eo12, .ref ew14, .int 0])), (eo12, .inr (5, [.ref ek13, .int 0])), (a37, .inr (4, [.ref nw15, .int 0])), (a48, .inr (5, [.ref ok16, .int 0])), (g220, .inl (cA42, 64, .inl (fun _ => 0))), (q43, .inl (cA44, 1, .inr (.inl (fun _ => 0))))] H := hP
      have hD : va_D A [(q1, .inr (0, [.ref a04, .ref a15, .ref a26, .ref a37, .ref a48, .int 0, .int 0, .int 0, .int 0, .int 0, .int 0])), (a04, .inr (1, [.ref pw9, .int 0])), (pw9, .inl (cp10, 64, .inl (fun _ => 0))), (a26, .inr (3, [.ref er11, .int 0, .int 0, .int 0, .int 0, .int 0, .int 0, .ref eo12, .ref ew14, .int 0])), (eo12, .inr (5, [.ref ek13, .int 0])), (a37, .inr (4, [.ref nw15, .int 0])), (a48, .inr (5, [.ref ok16, .int 0])), (g220, .inl (cA42, 64, .inl (fun _ => 0))), (q43, .inl (cA44, 1, .inr (.inl (fun _ => 0))))] := hD
      have hK : va_K (dC, dI) classes [(cp10, .int), (cA42, .int), (cA44, .long)] s := hK
      refine W.widen (k := 46) (n := 1945) (Nat.le_of_ble_eq_true rfl) (Nat.le_of_ble_eq_true rfl) ?_
      obtain rfl : r63 = 0 := hr64
      refine lv_icmp_eq (tgt := 705) hx hb d_L_law_157 rfl (fun hc65 => ?_) (fun hc65 => by first | exact absurd (rfl) hc65 | exact absurd hc65 (rfl))
      refine lv_iinc (k := 0) (v := 5) hx hb d_L_law_705 hl rfl rfl (by decide) rfl (fun ls hl => ?_)
      have hl : lv_has ls 7 [(4, .int 5), (3, .ref q43), (2, .ref q17), (1, .ref q1), (0, .ref b)] := hl
      refine lv_goto (tgt := 23) hx hb d_L_law_708 rfl ?_
      refine lv_iload hx hb d_L_law_23 (lv_at hl 0 rfl) ?_
      refine lv_aload_n hx hb d_L_law_25 rfl (lv_at hl 4 rfl) ?_
      refine va_slen hx hb hX hbl hbA hS d_L_law_26 ?_
      refine lv_iconst (v := 5) hx hb d_L_law_27 (by decide) ?_
      refine lv_isub hx hb d_L_law_28 ?_
      refine lv_icmp_gt (tgt := 711) hx hb d_L_law_29 rfl (fun _ => ?_) (fun h9 => absurd (by decide) h9)
      refine lv_iconst (v := 1) hx hb d_L_law_711 (by decide) ?_
      refine va_forget (fun q hq => by have h9 := hS.2.2 q hq; rw [hAe] at h9; exact h9) ?_
      refine W.widen (k := 600002) (n := 7302232) (Nat.le_of_ble_eq_true rfl) (Nat.le_of_ble_eq_true rfl) ?_
      exact lw_ret hx hb hr hlocks d_L_law_712
    · refine lv_tableIn (off := 123) (tgt := 162) hx hb d_L_law_39 (by rw [hs47]; decide) (by rw [hs47]; decide) (by rw [hs47]; decide) rfl ?_
      refine lv_aload_n hx hb d_L_law_162 rfl (lv_at hl 3 rfl) ?_
      refine lv_aload_n hx hb d_L_law_163 rfl (lv_at hl 4 rfl) ?_
      refine lv_iload hx hb d_L_law_164 (lv_at hl 0 rfl) ?_
      refine lv_iconst (v := 1) hx hb d_L_law_166 (by decide) ?_
      refine lv_iadd hx hb d_L_law_167 ?_
      refine va_sld hx hb hX hbl hbA hS (by unfold vp_in; decide) d_L_law_168 ?_
      refine lv_topi (fun y66 e67 => ?_)
      refine lv_aload_n hx hb d_L_law_169 rfl (lv_at hl 1 rfl) ?_
      have hPc := hP.sub (ws' := [(q1, .inr (0, [.ref a04, .ref a15, .ref a26, .ref a37, .ref a48, .int 0, .int 0, .int 0, .int 0, .int 0, .int 0]))]) [0] rfl
      have hKc := hK.sub (tys' := []) [] rfl
      have hDc := hD.sub (ws' := [(q1, .inr (0, [.ref a04, .ref a15, .ref a26, .ref a37, .ref a48, .int 0, .int 0, .int 0, .int 0, .int 0, .int 0]))]) [0] (by decide) rfl
      have hFc := va_free (wc := [(q1, .inr (0, [.ref a04, .ref a15, .ref a26, .ref a37, .ref a48, .int 0, .int 0, .int 0, .int 0, .int 0, .int 0]))]) hD hS hA [0] rfl
      refine va_calli (tx_runS (n := 3) (As := [.ref q1, .int y66, .ref q43]) (rest := []) ⟨hx, hb, hml, hown, hw⟩ (c_L_step l hst dC dI q1 a04 a15 a26 a37 a48 0 0 0 0 0 y66 q43 H.size) (gdx (k_386)) List.mem_cons_self rfl rfl ⟨Nat.le_of_ble_eq_true rfl, Nat.le_of_ble_eq_true rfl⟩ (hw _ k_0) (hw _ k_384) (hw _ k_385) (by decide +kernel) ⟨fun a U g mk q => by obtain ⟨q0, q1, qP, qK, qD, qN, qT⟩ := q; exact ⟨q0, q1, qP, va_K.moved (u := U) (U := U.calling g mk a) (Vm.Alike.refl U.vm) qK, qD, nw_vm (u := U) (U := U.calling g mk a) rfl qN, tw_vm (u := U) (U := U.calling g mk a) rfl qT⟩, fun U hU hW => ⟨rfl, by rw [hU], by rw [hU]; exact hPc, va_K.moved hW.alike hKc, hDc.weaken (fun _ _ _ _ => trivial), nw_warm hW hnw, by rw [hU]; exact tw_narrow (tw_warm hW (tw_kept htw (fun a h1 h2 => hS.2.1 a h1 h2))) (fun _ h => h.elim)⟩⟩ rfl rfl hl.1 rfl (lv_room (Nat.le_of_ble_eq_true rfl)) d_L_law_170 ⟨Nat.le_of_ble_eq_true rfl, Nat.le_of_ble_eq_true rfl⟩) hS (fun q _ h => hFc q h) hFc (fun r68 u9 t H1 locs ht hvm hr69 hB hz1 hk1 hS => ?_)
      obtain ⟨hP1, hK1, hD1⟩ := hB
      rw [ht] at hP1
      have hK1 := va_K.moved hvm.symm hK1
      try dsimp only at hr69 hP1 hK1 hD1
      obtain ⟨hP, hD⟩ := va_join (wr := [(a04, .inr (1, [.ref pw9, .int 0])), (pw9, .inl (cp10, 64, .inl (fun _ => 0))), (a26, .inr (3, [.ref er11, .int 0, .int 0, .int 0, .int 0, .int 0, .int 0, .ref eo12, .ref ew14, .int 0])), (eo12, .inr (5, [.ref ek13, .int 0])), (a37, .inr (4, [.ref nw15, .int 0])), (a48, .inr (5, [.ref ok16, .int 0])), (q17, .inr (6, [.int 0, .int 0, .ref g220, .int 0, .int 0, .int 0, .int 0, .int 0, .ref g821, .ref g922, .ref g1023, .ref g1124, .ref g1225, .ref g1326, .ref g1427, .ref g1528, .ref g1629, .ref g1730, .ref g1831, .ref g1932, .ref g2033, .ref g2134, .ref g2235, .ref g2336, .int 0, .int 0, .int 0, .int 0, .ref g2837, .int 0, .ref g3038, .ref g3139, .ref g3240, .int 0, .int 0, .int 0, .ref g3641])), (g220, .inl (cA42, 64, .inl (fun _ => 0))), (q43, .inl (cA44, 1, .inr (.inl (fun _ => 0))))]) (w1 := []) hP hD [0] [1, 2, 3, 4, 5, 6, 7, 8, 9] rfl rfl (by decide) (by decide) hk1 hFc hP1 hD1
      have hK := (hK.sub (tys' := [(cp10, .int), (cA42, .int), (cA44, .long)]) [0, 1, 2] rfl).app hK1
      generalize H1 = H at hP hS ⊢
      have hP : va_P (dC, dI) classes [(a04, .inr (1, [.ref pw9, .int 0])), (pw9, .inl (cp10, 64, .inl (fun _ => 0))), (a26, .inr (3, [.ref er11, .int 0, .int 0, .int 0, .int 0, .int 0, .int 0, .ref eo12, .ref ew14, .int 0])), (eo12, .inr (5, [.ref ek13, .int 0])), (a37, .inr (4, [.ref nw15, .int 0])), (a48, .inr (5, [.ref ok16, .int 0])), (q17, .inr (6, [.int 0, .int 0, .ref g220, .int 0, .int 0, .int 0, .int 0, .int 0, .ref g821, .ref g922, .ref g1023, .ref g1124, .ref g1225, .ref g1326, .ref g1427, .ref g1528, .ref g1629, .ref g1730, .ref g1831, .ref g1932, .ref g2033, .ref g2134, .ref g2235, .ref g2336, .int 0, .int 0, .int 0, .int 0, .ref g2837, .int 0, .ref g3038, .ref g3139, .ref g3240, .int 0, .int 0, .int 0, .ref g3641])), (g220, .inl (cA42, 64, .inl (fun _ => 0))), (q43, .inl (cA44, 1, .inr (.inl (fun _ => 0))))] H := hP
      have hD : va_D A [(a04, .inr (1, [.ref pw9, .int 0])), (pw9, .inl (cp10, 64, .inl (fun _ => 0))), (a26, .inr (3, [.ref er11, .int 0, .int 0, .int 0, .int 0, .int 0, .int 0, .ref eo12, .ref ew14, .int 0])), (eo12, .inr (5, [.ref ek13, .int 0])), (a37, .inr (4, [.ref nw15, .int 0])), (a48, .inr (5, [.ref ok16, .int 0])), (q17, .inr (6, [.int 0, .int 0, .ref g220, .int 0, .int 0, .int 0, .int 0, .int 0, .ref g821, .ref g922, .ref g1023, .ref g1124, .ref g1225, .ref g1326, .ref g1427, .ref g1528, .ref g1629, .ref g1730, .ref g1831, .ref g1932, .ref g2033, .ref g2134, .ref g2235, .ref g2336, .int 0, .int 0, .int 0, .int 0, .ref g2837, .int 0, .ref g3038, .ref g3139, .ref g3240, .int 0, .int 0, .int 0, .ref g3641])), (g220, .inl (cA42, 64, .inl (fun _ => 0))), (q43, .inl (cA44, 1, .inr (.inl (fun _ => 0))))] := hD
      have hK : va_K (dC, dI) classes [(cp10, .int), (cA42, .int), (cA44, .long)] s := hK
      refine W.widen (k := 47) (n := 1951) (Nat.le_of_ble_eq_true rfl) (Nat.le_of_ble_eq_true rfl) ?_
      obtain rfl : r68 = 1 := hr69
      refine lv_istore hx hb d_L_law_173 hl (by decide) rfl (fun ls hl => ?_)
      have hl : lv_has ls 7 [(5, .int 1), (4, .int 0), (3, .ref q43), (2, .ref q17), (1, .ref q1), (0, .ref b)] := hl
      refine lv_aload_n hx hb d_L_law_175 rfl (lv_at hl 3 rfl) ?_
      refine lv_aload_n hx hb d_L_law_176 rfl (lv_at hl 5 rfl) ?_
      refine lv_iload hx hb d_L_law_177 (lv_at hl 1 rfl) ?_
      refine lv_iconst (v := 1) hx hb d_L_law_179 (by decide) ?_
      refine lv_iadd hx hb d_L_law_180 ?_
      refine va_sld hx hb hX hbl hbA hS (by unfold vp_in; decide) d_L_law_181 ?_
      refine lv_topi (fun y70 e71 => ?_)
      obtain rfl : y66 = y70 := e67.trans e71.symm
      have hPc := hP.sub (ws' := [(q17, .inr (6, [.int 0, .int 0, .ref g220, .int 0, .int 0, .int 0, .int 0, .int 0, .ref g821, .ref g922, .ref g1023, .ref g1124, .ref g1225, .ref g1326, .ref g1427, .ref g1528, .ref g1629, .ref g1730, .ref g1831, .ref g1932, .ref g2033, .ref g2134, .ref g2235, .ref g2336, .int 0, .int 0, .int 0, .int 0, .ref g2837, .int 0, .ref g3038, .ref g3139, .ref g3240, .int 0, .int 0, .int 0, .ref g3641]))]) [6] rfl
      have hKc := hK.sub (tys' := []) [] rfl
      have hDc := hD.sub (ws' := [(q17, .inr (6, [.int 0, .int 0, .ref g220, .int 0, .int 0, .int 0, .int 0, .int 0, .ref g821, .ref g922, .ref g1023, .ref g1124, .ref g1225, .ref g1326, .ref g1427, .ref g1528, .ref g1629, .ref g1730, .ref g1831, .ref g1932, .ref g2033, .ref g2134, .ref g2235, .ref g2336, .int 0, .int 0, .int 0, .int 0, .ref g2837, .int 0, .ref g3038, .ref g3139, .ref g3240, .int 0, .int 0, .int 0, .ref g3641]))]) [6] (by decide) rfl
      have hFc := va_free (wc := [(q17, .inr (6, [.int 0, .int 0, .ref g220, .int 0, .int 0, .int 0, .int 0, .int 0, .ref g821, .ref g922, .ref g1023, .ref g1124, .ref g1225, .ref g1326, .ref g1427, .ref g1528, .ref g1629, .ref g1730, .ref g1831, .ref g1932, .ref g2033, .ref g2134, .ref g2235, .ref g2336, .int 0, .int 0, .int 0, .int 0, .ref g2837, .int 0, .ref g3038, .ref g3139, .ref g3240, .int 0, .int 0, .int 0, .ref g3641]))]) hD hS hA [6] rfl
      refine va_calli (va_runV (C := "VotedTripleModel") (As := [.int y66]) (rest := []) ⟨hx, hb, hml, hown, hw⟩ (c_M_step_0 l dC dI q17 g220 g821 g922 g1023 g1124 g1225 g1326 g1427 g1528 g1629 g1730 g1831 g1932 g2033 g2134 g2235 g2336 g2837 g3038 g3139 g3240 g3641 y66 H.size) (cwV 1 hw (gdV (k_880) (k_877) (k_878) (k_879) (k_8)) rfl rfl rfl (by decide +kernel) ⟨Nat.le_of_ble_eq_true rfl, Nat.le_of_ble_eq_true rfl⟩) ⟨fun a U g mk q => by obtain ⟨q0, q1, qP, qK, qD⟩ := q; exact ⟨q0, q1, qP, va_K.moved (u := U) (U := U.calling g mk a) (Vm.Alike.refl U.vm) qK, qD⟩, va_recv hK hP rfl (q0 := 6) rfl, fun U hU hW => ⟨rfl, by rw [hU], by rw [hU]; exact hPc, va_K.moved hW.alike hKc, hDc.weaken (fun _ _ _ _ => trivial)⟩⟩ rfl rfl hl.1 rfl (lv_room (Nat.le_of_ble_eq_true rfl)) d_L_law_182 ⟨Nat.le_of_ble_eq_true rfl, Nat.le_of_ble_eq_true rfl⟩) hS (fun q _ h => hFc q h) hFc (fun r72 u9 t H1 locs ht hvm hr73 hB hz1 hk1 hS => ?_)
      obtain ⟨hP1, hK1, hD1⟩ := hB
      rw [ht] at hP1
      have hK1 := va_K.moved hvm.symm hK1
      try dsimp only at hr73 hP1 hK1 hD1
      obtain ⟨hP, hD⟩ := va_join (wr := [(a04, .inr (1, [.ref pw9, .int 0])), (pw9, .inl (cp10, 64, .inl (fun _ => 0))), (a26, .inr (3, [.ref er11, .int 0, .int 0, .int 0, .int 0, .int 0, .int 0, .ref eo12, .ref ew14, .int 0])), (eo12, .inr (5, [.ref ek13, .int 0])), (a37, .inr (4, [.ref nw15, .int 0])), (a48, .inr (5, [.ref ok16, .int 0])), (g220, .inl (cA42, 64, .inl (fun _ => 0))), (q43, .inl (cA44, 1, .inr (.inl (fun _ => 0))))]) (w1 := [(q17, .inr (6, [.int 1, .int 0, .ref g220, .int 0, .int 0, .int 0, .int 0, .int 0, .ref g821, .ref g922, .ref g1023, .ref g1124, .ref g1225, .ref g1326, .ref g1427, .ref g1528, .ref g1629, .ref g1730, .ref g1831, .ref g1932, .ref g2033, .ref g2134, .ref g2235, .ref g2336, .int 0, .int 0, .int 0, .int 0, .ref g2837, .int 0, .ref g3038, .ref g3139, .ref g3240, .int 0, .int 0, .int 0, .ref g3641]))]) hP hD [6] [0, 1, 2, 3, 4, 5, 7, 8] rfl rfl (by decide) (by decide) hk1 hFc hP1 hD1
      have hK := (hK.sub (tys' := [(cp10, .int), (cA42, .int), (cA44, .long)]) [0, 1, 2] rfl).app hK1
      generalize H1 = H at hP hS ⊢
      have hP : va_P (dC, dI) classes [(a04, .inr (1, [.ref pw9, .int 0])), (pw9, .inl (cp10, 64, .inl (fun _ => 0))), (a26, .inr (3, [.ref er11, .int 0, .int 0, .int 0, .int 0, .int 0, .int 0, .ref eo12, .ref ew14, .int 0])), (eo12, .inr (5, [.ref ek13, .int 0])), (a37, .inr (4, [.ref nw15, .int 0])), (a48, .inr (5, [.ref ok16, .int 0])), (g220, .inl (cA42, 64, .inl (fun _ => 0))), (q43, .inl (cA44, 1, .inr (.inl (fun _ => 0)))), (q17, .inr (6, [.int 1, .int 0, .ref g220, .int 0, .int 0, .int 0, .int 0, .int 0, .ref g821, .ref g922, .ref g1023, .ref g1124, .ref g1225, .ref g1326, .ref g1427, .ref g1528, .ref g1629, .ref g1730, .ref g1831, .ref g1932, .ref g2033, .ref g2134, .ref g2235, .ref g2336, .int 0, .int 0, .int 0, .int 0, .ref g2837, .int 0, .ref g3038, .ref g3139, .ref g3240, .int 0, .int 0, .int 0, .ref g3641]))] H := hP
      have hD : va_D A [(a04, .inr (1, [.ref pw9, .int 0])), (pw9, .inl (cp10, 64, .inl (fun _ => 0))), (a26, .inr (3, [.ref er11, .int 0, .int 0, .int 0, .int 0, .int 0, .int 0, .ref eo12, .ref ew14, .int 0])), (eo12, .inr (5, [.ref ek13, .int 0])), (a37, .inr (4, [.ref nw15, .int 0])), (a48, .inr (5, [.ref ok16, .int 0])), (g220, .inl (cA42, 64, .inl (fun _ => 0))), (q43, .inl (cA44, 1, .inr (.inl (fun _ => 0)))), (q17, .inr (6, [.int 1, .int 0, .ref g220, .int 0, .int 0, .int 0, .int 0, .int 0, .ref g821, .ref g922, .ref g1023, .ref g1124, .ref g1225, .ref g1326, .ref g1427, .ref g1528, .ref g1629, .ref g1730, .ref g1831, .ref g1932, .ref g2033, .ref g2134, .ref g2235, .ref g2336, .int 0, .int 0, .int 0, .int 0, .ref g2837, .int 0, .ref g3038, .ref g3139, .ref g3240, .int 0, .int 0, .int 0, .ref g3641]))] := hD
      have hK : va_K (dC, dI) classes [(cp10, .int), (cA42, .int), (cA44, .long)] s := hK
      refine W.widen (k := 47) (n := 1951) (Nat.le_of_ble_eq_true rfl) (Nat.le_of_ble_eq_true rfl) ?_
      obtain rfl : r72 = 0 := hr73
      refine lv_istore hx hb d_L_law_185 hl (by decide) rfl (fun ls hl => ?_)
      have hl : lv_has ls 7 [(6, .int 0), (5, .int 1), (4, .int 0), (3, .ref q43), (2, .ref q17), (1, .ref q1), (0, .ref b)] := hl
      refine lv_aload_n hx hb d_L_law_187 rfl (lv_at hl 4 rfl) ?_
      have hPc := hP.sub (ws' := [(q17, .inr (6, [.int 1, .int 0, .ref g220, .int 0, .int 0, .int 0, .int 0, .int 0, .ref g821, .ref g922, .ref g1023, .ref g1124, .ref g1225, .ref g1326, .ref g1427, .ref g1528, .ref g1629, .ref g1730, .ref g1831, .ref g1932, .ref g2033, .ref g2134, .ref g2235, .ref g2336, .int 0, .int 0, .int 0, .int 0, .ref g2837, .int 0, .ref g3038, .ref g3139, .ref g3240, .int 0, .int 0, .int 0, .ref g3641]))]) [8] rfl
      have hKc := hK.sub (tys' := []) [] rfl
      refine vp_callSi (va_runV (C := "VotedTripleModel") (As := []) (rest := []) ⟨hx, hb, hml, hown, hw⟩ (c_M_thrown l dC dI q17 g220 g821 g922 g1023 g1124 g1225 g1326 g1427 g1528 g1629 g1730 g1831 g1932 g2033 g2134 g2235 g2336 g2837 g3038 g3139 g3240 g3641 1) (cwV 0 hw (gdV (k_839) (k_836) (k_837) (k_838) (k_8)) rfl rfl rfl (by decide +kernel) ⟨Nat.le_of_ble_eq_true rfl, Nat.le_of_ble_eq_true rfl⟩) ⟨fun a U g mk q => ⟨q.1, q.2.1, va_K.moved (u := U) (U := U.calling g mk a) (Vm.Alike.refl U.vm) q.2.2⟩, va_recv hK hP rfl (q0 := 8) rfl, fun U hU hW => ⟨rfl, by rw [hU]; exact hPc, va_K.moved hW.alike hKc⟩⟩ rfl rfl hl.1 rfl (lv_room (Nat.le_of_ble_eq_true rfl)) d_L_law_188 ⟨Nat.le_of_ble_eq_true rfl, Nat.le_of_ble_eq_true rfl⟩).run (fun r74 hr75 => ?_)
      subst hr75
      refine lv_iload hx hb d_L_law_191 (lv_at hl 1 rfl) ?_
      refine lv_icmp_eq (tgt := 198) hx hb d_L_law_193 rfl (fun hc76 => ?_) (fun hc76 => by first | exact absurd (rfl) hc76 | exact absurd hc76 (rfl))
      refine lv_iload hx hb d_L_law_198 (lv_at hl 1 rfl) ?_
      refine lv_if_ne (tgt := 215) hx hb d_L_law_200 rfl (fun hc77 => ?_) (fun hc77 => by first | exact absurd (by decide) hc77 | exact absurd hc77 (by decide))
      refine lv_goto (tgt := 705) hx hb d_L_law_215 rfl ?_
      refine lv_iinc (k := 2) (v := 5) hx hb d_L_law_705 hl rfl rfl (by decide) rfl (fun ls hl => ?_)
      have hl : lv_has ls 7 [(4, .int 5), (6, .int 0), (5, .int 1), (3, .ref q43), (2, .ref q17), (1, .ref q1), (0, .ref b)] := hl
      refine lv_goto (tgt := 23) hx hb d_L_law_708 rfl ?_
      refine lv_iload hx hb d_L_law_23 (lv_at hl 0 rfl) ?_
      refine lv_aload_n hx hb d_L_law_25 rfl (lv_at hl 6 rfl) ?_
      refine va_slen hx hb hX hbl hbA hS d_L_law_26 ?_
      refine lv_iconst (v := 5) hx hb d_L_law_27 (by decide) ?_
      refine lv_isub hx hb d_L_law_28 ?_
      refine lv_icmp_gt (tgt := 711) hx hb d_L_law_29 rfl (fun _ => ?_) (fun h9 => absurd (by decide) h9)
      refine lv_iconst (v := 1) hx hb d_L_law_711 (by decide) ?_
      refine va_forget (fun q hq => by have h9 := hS.2.2 q hq; rw [hAe] at h9; exact h9) ?_
      refine W.widen (k := 600002) (n := 7302232) (Nat.le_of_ble_eq_true rfl) (Nat.le_of_ble_eq_true rfl) ?_
      exact lw_ret hx hb hr hlocks d_L_law_712
    · refine lv_tableIn (off := 179) (tgt := 218) hx hb d_L_law_39 (by rw [hs47]; decide) (by rw [hs47]; decide) (by rw [hs47]; decide) rfl ?_
      refine lv_aload_n hx hb d_L_law_218 rfl (lv_at hl 3 rfl) ?_
      refine lv_aload_n hx hb d_L_law_219 rfl (lv_at hl 4 rfl) ?_
      refine lv_iload hx hb d_L_law_220 (lv_at hl 0 rfl) ?_
      refine lv_iconst (v := 1) hx hb d_L_law_222 (by decide) ?_
      refine lv_iadd hx hb d_L_law_223 ?_
      refine va_sld hx hb hX hbl hbA hS (by unfold vp_in; decide) d_L_law_224 ?_
      refine lv_topi (fun y78 e79 => ?_)
      have hPc := hP.sub (ws' := [(q1, .inr (0, [.ref a04, .ref a15, .ref a26, .ref a37, .ref a48, .int 0, .int 0, .int 0, .int 0, .int 0, .int 0]))]) [0] rfl
      have hKc := hK.sub (tys' := []) [] rfl
      refine vp_callSi (va_runV (C := "VotedTriple") (As := [.int y78]) (rest := []) ⟨hx, hb, hml, hown, hw⟩ (c_T_input_0 l dC dI q1 a04 a15 a26 a37 a48 0 0 0 0 0 y78) (cwV 1 hw (gdV (k_326) (k_323) (k_324) (k_325) (k_1)) rfl rfl rfl (by decide +kernel) ⟨Nat.le_of_ble_eq_true rfl, Nat.le_of_ble_eq_true rfl⟩) ⟨fun a U g mk q => ⟨q.1, q.2.1, va_K.moved (u := U) (U := U.calling g mk a) (Vm.Alike.refl U.vm) q.2.2⟩, va_recv hK hP rfl (q0 := 0) rfl, fun U hU hW => ⟨rfl, by rw [hU]; exact hPc, va_K.moved hW.alike hKc⟩⟩ rfl rfl hl.1 rfl (lv_room (Nat.le_of_ble_eq_true rfl)) d_L_law_225 ⟨Nat.le_of_ble_eq_true rfl, Nat.le_of_ble_eq_true rfl⟩).run (fun r80 hr81 => ?_)
      subst hr81
      refine lv_aload_n hx hb d_L_law_228 rfl (lv_at hl 2 rfl) ?_
      refine lv_aload_n hx hb d_L_law_229 rfl (lv_at hl 4 rfl) ?_
      refine lv_iload hx hb d_L_law_230 (lv_at hl 0 rfl) ?_
      refine lv_iconst (v := 1) hx hb d_L_law_232 (by decide) ?_
      refine lv_iadd hx hb d_L_law_233 ?_
      refine va_sld hx hb hX hbl hbA hS (by unfold vp_in; decide) d_L_law_234 ?_
      refine lv_topi (fun y82 e83 => ?_)
      obtain rfl : y78 = y82 := e79.trans e83.symm
      have hPc := hP.sub (ws' := [(q17, .inr (6, [.int 0, .int 0, .ref g220, .int 0, .int 0, .int 0, .int 0, .int 0, .ref g821, .ref g922, .ref g1023, .ref g1124, .ref g1225, .ref g1326, .ref g1427, .ref g1528, .ref g1629, .ref g1730, .ref g1831, .ref g1932, .ref g2033, .ref g2134, .ref g2235, .ref g2336, .int 0, .int 0, .int 0, .int 0, .ref g2837, .int 0, .ref g3038, .ref g3139, .ref g3240, .int 0, .int 0, .int 0, .ref g3641]))]) [7] rfl
      have hKc := hK.sub (tys' := []) [] rfl
      have hDc := hD.sub (ws' := [(q17, .inr (6, [.int 0, .int 0, .ref g220, .int 0, .int 0, .int 0, .int 0, .int 0, .ref g821, .ref g922, .ref g1023, .ref g1124, .ref g1225, .ref g1326, .ref g1427, .ref g1528, .ref g1629, .ref g1730, .ref g1831, .ref g1932, .ref g2033, .ref g2134, .ref g2235, .ref g2336, .int 0, .int 0, .int 0, .int 0, .ref g2837, .int 0, .ref g3038, .ref g3139, .ref g3240, .int 0, .int 0, .int 0, .ref g3641]))]) [7] (by decide) rfl
      have hFc := va_free (wc := [(q17, .inr (6, [.int 0, .int 0, .ref g220, .int 0, .int 0, .int 0, .int 0, .int 0, .ref g821, .ref g922, .ref g1023, .ref g1124, .ref g1225, .ref g1326, .ref g1427, .ref g1528, .ref g1629, .ref g1730, .ref g1831, .ref g1932, .ref g2033, .ref g2134, .ref g2235, .ref g2336, .int 0, .int 0, .int 0, .int 0, .ref g2837, .int 0, .ref g3038, .ref g3139, .ref g3240, .int 0, .int 0, .int 0, .ref g3641]))]) hD hS hA [7] rfl
      refine va_calli (va_runV (C := "VotedTripleModel") (As := [.int y78]) (rest := [.int 0]) ⟨hx, hb, hml, hown, hw⟩ (c_M_input_0 l dC dI q17 g220 g821 g922 g1023 g1124 g1225 g1326 g1427 g1528 g1629 g1730 g1831 g1932 g2033 g2134 g2235 g2336 g2837 g3038 g3139 g3240 g3641 y78 H.size) (cwV 1 hw (gdV (k_951) (k_948) (k_949) (k_950) (k_8)) rfl rfl rfl (by decide +kernel) ⟨Nat.le_of_ble_eq_true rfl, Nat.le_of_ble_eq_true rfl⟩) ⟨fun a U g mk q => by obtain ⟨q0, q1, qP, qK, qD⟩ := q; exact ⟨q0, q1, qP, va_K.moved (u := U) (U := U.calling g mk a) (Vm.Alike.refl U.vm) qK, qD⟩, va_recv hK hP rfl (q0 := 7) rfl, fun U hU hW => ⟨rfl, by rw [hU], by rw [hU]; exact hPc, va_K.moved hW.alike hKc, hDc.weaken (fun _ _ _ _ => trivial)⟩⟩ rfl rfl hl.1 rfl (lv_room (Nat.le_of_ble_eq_true rfl)) d_L_law_235 ⟨Nat.le_of_ble_eq_true rfl, Nat.le_of_ble_eq_true rfl⟩) hS (fun q _ h => hFc q h) hFc (fun r84 u9 t H1 locs ht hvm hr85 hB hz1 hk1 hS => ?_)
      obtain ⟨hP1, hK1, hD1⟩ := hB
      rw [ht] at hP1
      have hK1 := va_K.moved hvm.symm hK1
      try dsimp only at hr85 hP1 hK1 hD1
      obtain ⟨hP, hD⟩ := va_join (wr := [(q1, .inr (0, [.ref a04, .ref a15, .ref a26, .ref a37, .ref a48, .int 0, .int 0, .int 0, .int 0, .int 0, .int 0])), (a04, .inr (1, [.ref pw9, .int 0])), (pw9, .inl (cp10, 64, .inl (fun _ => 0))), (a26, .inr (3, [.ref er11, .int 0, .int 0, .int 0, .int 0, .int 0, .int 0, .ref eo12, .ref ew14, .int 0])), (eo12, .inr (5, [.ref ek13, .int 0])), (a37, .inr (4, [.ref nw15, .int 0])), (a48, .inr (5, [.ref ok16, .int 0])), (g220, .inl (cA42, 64, .inl (fun _ => 0))), (q43, .inl (cA44, 1, .inr (.inl (fun _ => 0))))]) (w1 := []) hP hD [7] [0, 1, 2, 3, 4, 5, 6, 8, 9] rfl rfl (by decide) (by decide) hk1 hFc hP1 hD1
      have hK := (hK.sub (tys' := [(cp10, .int), (cA42, .int), (cA44, .long)]) [0, 1, 2] rfl).app hK1
      generalize H1 = H at hP hS ⊢
      have hP : va_P (dC, dI) classes [(q1, .inr (0, [.ref a04, .ref a15, .ref a26, .ref a37, .ref a48, .int 0, .int 0, .int 0, .int 0, .int 0, .int 0])), (a04, .inr (1, [.ref pw9, .int 0])), (pw9, .inl (cp10, 64, .inl (fun _ => 0))), (a26, .inr (3, [.ref er11, .int 0, .int 0, .int 0, .int 0, .int 0, .int 0, .ref eo12, .ref ew14, .int 0])), (eo12, .inr (5, [.ref ek13, .int 0])), (a37, .inr (4, [.ref nw15, .int 0])), (a48, .inr (5, [.ref ok16, .int 0])), (g220, .inl (cA42, 64, .inl (fun _ => 0))), (q43, .inl (cA44, 1, .inr (.inl (fun _ => 0))))] H := hP
      have hD : va_D A [(q1, .inr (0, [.ref a04, .ref a15, .ref a26, .ref a37, .ref a48, .int 0, .int 0, .int 0, .int 0, .int 0, .int 0])), (a04, .inr (1, [.ref pw9, .int 0])), (pw9, .inl (cp10, 64, .inl (fun _ => 0))), (a26, .inr (3, [.ref er11, .int 0, .int 0, .int 0, .int 0, .int 0, .int 0, .ref eo12, .ref ew14, .int 0])), (eo12, .inr (5, [.ref ek13, .int 0])), (a37, .inr (4, [.ref nw15, .int 0])), (a48, .inr (5, [.ref ok16, .int 0])), (g220, .inl (cA42, 64, .inl (fun _ => 0))), (q43, .inl (cA44, 1, .inr (.inl (fun _ => 0))))] := hD
      have hK : va_K (dC, dI) classes [(cp10, .int), (cA42, .int), (cA44, .long)] s := hK
      refine W.widen (k := 46) (n := 1945) (Nat.le_of_ble_eq_true rfl) (Nat.le_of_ble_eq_true rfl) ?_
      obtain rfl : r84 = 0 := hr85
      refine lv_icmp_eq (tgt := 705) hx hb d_L_law_238 rfl (fun hc86 => ?_) (fun hc86 => by first | exact absurd (rfl) hc86 | exact absurd hc86 (rfl))
      refine lv_iinc (k := 0) (v := 5) hx hb d_L_law_705 hl rfl rfl (by decide) rfl (fun ls hl => ?_)
      have hl : lv_has ls 7 [(4, .int 5), (3, .ref q43), (2, .ref q17), (1, .ref q1), (0, .ref b)] := hl
      refine lv_goto (tgt := 23) hx hb d_L_law_708 rfl ?_
      refine lv_iload hx hb d_L_law_23 (lv_at hl 0 rfl) ?_
      refine lv_aload_n hx hb d_L_law_25 rfl (lv_at hl 4 rfl) ?_
      refine va_slen hx hb hX hbl hbA hS d_L_law_26 ?_
      refine lv_iconst (v := 5) hx hb d_L_law_27 (by decide) ?_
      refine lv_isub hx hb d_L_law_28 ?_
      refine lv_icmp_gt (tgt := 711) hx hb d_L_law_29 rfl (fun _ => ?_) (fun h9 => absurd (by decide) h9)
      refine lv_iconst (v := 1) hx hb d_L_law_711 (by decide) ?_
      refine va_forget (fun q hq => by have h9 := hS.2.2 q hq; rw [hAe] at h9; exact h9) ?_
      refine W.widen (k := 600002) (n := 7302232) (Nat.le_of_ble_eq_true rfl) (Nat.le_of_ble_eq_true rfl) ?_
      exact lw_ret hx hb hr hlocks d_L_law_712
    · refine lv_tableIn (off := 204) (tgt := 243) hx hb d_L_law_39 (by rw [hs47]; decide) (by rw [hs47]; decide) (by rw [hs47]; decide) rfl ?_
      refine lv_aload_n hx hb d_L_law_243 rfl (lv_at hl 3 rfl) ?_
      refine lv_aload_n hx hb d_L_law_244 rfl (lv_at hl 4 rfl) ?_
      refine lv_iload hx hb d_L_law_245 (lv_at hl 0 rfl) ?_
      refine lv_iconst (v := 1) hx hb d_L_law_247 (by decide) ?_
      refine lv_iadd hx hb d_L_law_248 ?_
      refine va_sld hx hb hX hbl hbA hS (by unfold vp_in; decide) d_L_law_249 ?_
      refine lv_topi (fun y87 e88 => ?_)
      refine lv_aload_n hx hb d_L_law_250 rfl (lv_at hl 1 rfl) ?_
      have hPc := hP.sub (ws' := [(q1, .inr (0, [.ref a04, .ref a15, .ref a26, .ref a37, .ref a48, .int 0, .int 0, .int 0, .int 0, .int 0, .int 0])), (a48, .inr (5, [.ref ok16, .int 0]))]) [0, 6] rfl
      have hKc := hK.sub (tys' := []) [] rfl
      have hDc := hD.sub (ws' := [(q1, .inr (0, [.ref a04, .ref a15, .ref a26, .ref a37, .ref a48, .int 0, .int 0, .int 0, .int 0, .int 0, .int 0])), (a48, .inr (5, [.ref ok16, .int 0]))]) [0, 6] (by decide) rfl
      have hFc := va_free (wc := [(q1, .inr (0, [.ref a04, .ref a15, .ref a26, .ref a37, .ref a48, .int 0, .int 0, .int 0, .int 0, .int 0, .int 0])), (a48, .inr (5, [.ref ok16, .int 0]))]) hD hS hA [0, 6] rfl
      refine va_calli (tx_runS (n := 3) (As := [.ref q1, .int y87, .ref q43]) (rest := []) ⟨hx, hb, hml, hown, hw⟩ (c_L_output l hst dC dI q1 a04 a15 a26 a37 a48 0 0 0 0 0 ok16 y87 q43 H.size) (gdx (k_669)) List.mem_cons_self rfl rfl ⟨Nat.le_of_ble_eq_true rfl, Nat.le_of_ble_eq_true rfl⟩ (hw _ k_0) (hw _ k_667) (hw _ k_668) (by decide +kernel) ⟨fun a U g mk q => by obtain ⟨q0, q1, qP, qK, qD, qN, qT⟩ := q; exact ⟨q0, q1, qP, va_K.moved (u := U) (U := U.calling g mk a) (Vm.Alike.refl U.vm) qK, qD, nw_vm (u := U) (U := U.calling g mk a) rfl qN, tw_vm (u := U) (U := U.calling g mk a) rfl qT⟩, fun U hU hW => ⟨rfl, by rw [hU], by rw [hU]; exact hPc, va_K.moved hW.alike hKc, hDc.weaken (fun _ _ _ _ => trivial), nw_warm hW hnw, by rw [hU]; exact tw_narrow (tw_warm hW (tw_kept htw (fun a h1 h2 => hS.2.1 a h1 h2))) (fun _ h => h.elim)⟩⟩ rfl rfl hl.1 rfl (lv_room (Nat.le_of_ble_eq_true rfl)) d_L_law_251 ⟨Nat.le_of_ble_eq_true rfl, Nat.le_of_ble_eq_true rfl⟩) hS (fun q _ h => hFc q h) hFc (fun r89 u9 t H1 locs ht hvm hr90 hB hz1 hk1 hS => ?_)
      obtain ⟨hP1, hK1, hD1⟩ := hB
      rw [ht] at hP1
      have hK1 := va_K.moved hvm.symm hK1
      try dsimp only at hr90 hP1 hK1 hD1
      obtain ⟨hP, hD⟩ := va_join (wr := [(a04, .inr (1, [.ref pw9, .int 0])), (pw9, .inl (cp10, 64, .inl (fun _ => 0))), (a26, .inr (3, [.ref er11, .int 0, .int 0, .int 0, .int 0, .int 0, .int 0, .ref eo12, .ref ew14, .int 0])), (eo12, .inr (5, [.ref ek13, .int 0])), (a37, .inr (4, [.ref nw15, .int 0])), (q17, .inr (6, [.int 0, .int 0, .ref g220, .int 0, .int 0, .int 0, .int 0, .int 0, .ref g821, .ref g922, .ref g1023, .ref g1124, .ref g1225, .ref g1326, .ref g1427, .ref g1528, .ref g1629, .ref g1730, .ref g1831, .ref g1932, .ref g2033, .ref g2134, .ref g2235, .ref g2336, .int 0, .int 0, .int 0, .int 0, .ref g2837, .int 0, .ref g3038, .ref g3139, .ref g3240, .int 0, .int 0, .int 0, .ref g3641])), (g220, .inl (cA42, 64, .inl (fun _ => 0))), (q43, .inl (cA44, 1, .inr (.inl (fun _ => 0))))]) (w1 := []) hP hD [0, 6] [1, 2, 3, 4, 5, 7, 8, 9] rfl rfl (by decide) (by decide) hk1 hFc hP1 hD1
      have hK := (hK.sub (tys' := [(cp10, .int), (cA42, .int), (cA44, .long)]) [0, 1, 2] rfl).app hK1
      generalize H1 = H at hP hS ⊢
      have hP : va_P (dC, dI) classes [(a04, .inr (1, [.ref pw9, .int 0])), (pw9, .inl (cp10, 64, .inl (fun _ => 0))), (a26, .inr (3, [.ref er11, .int 0, .int 0, .int 0, .int 0, .int 0, .int 0, .ref eo12, .ref ew14, .int 0])), (eo12, .inr (5, [.ref ek13, .int 0])), (a37, .inr (4, [.ref nw15, .int 0])), (q17, .inr (6, [.int 0, .int 0, .ref g220, .int 0, .int 0, .int 0, .int 0, .int 0, .ref g821, .ref g922, .ref g1023, .ref g1124, .ref g1225, .ref g1326, .ref g1427, .ref g1528, .ref g1629, .ref g1730, .ref g1831, .ref g1932, .ref g2033, .ref g2134, .ref g2235, .ref g2336, .int 0, .int 0, .int 0, .int 0, .ref g2837, .int 0, .ref g3038, .ref g3139, .ref g3240, .int 0, .int 0, .int 0, .ref g3641])), (g220, .inl (cA42, 64, .inl (fun _ => 0))), (q43, .inl (cA44, 1, .inr (.inl (fun _ => 0))))] H := hP
      have hD : va_D A [(a04, .inr (1, [.ref pw9, .int 0])), (pw9, .inl (cp10, 64, .inl (fun _ => 0))), (a26, .inr (3, [.ref er11, .int 0, .int 0, .int 0, .int 0, .int 0, .int 0, .ref eo12, .ref ew14, .int 0])), (eo12, .inr (5, [.ref ek13, .int 0])), (a37, .inr (4, [.ref nw15, .int 0])), (q17, .inr (6, [.int 0, .int 0, .ref g220, .int 0, .int 0, .int 0, .int 0, .int 0, .ref g821, .ref g922, .ref g1023, .ref g1124, .ref g1225, .ref g1326, .ref g1427, .ref g1528, .ref g1629, .ref g1730, .ref g1831, .ref g1932, .ref g2033, .ref g2134, .ref g2235, .ref g2336, .int 0, .int 0, .int 0, .int 0, .ref g2837, .int 0, .ref g3038, .ref g3139, .ref g3240, .int 0, .int 0, .int 0, .ref g3641])), (g220, .inl (cA42, 64, .inl (fun _ => 0))), (q43, .inl (cA44, 1, .inr (.inl (fun _ => 0))))] := hD
      have hK : va_K (dC, dI) classes [(cp10, .int), (cA42, .int), (cA44, .long)] s := hK
      refine W.widen (k := 47) (n := 1951) (Nat.le_of_ble_eq_true rfl) (Nat.le_of_ble_eq_true rfl) ?_
      obtain rfl : r89 = 1 := hr90
      refine lv_istore hx hb d_L_law_254 hl (by decide) rfl (fun ls hl => ?_)
      have hl : lv_has ls 7 [(5, .int 1), (4, .int 0), (3, .ref q43), (2, .ref q17), (1, .ref q1), (0, .ref b)] := hl
      refine lv_aload_n hx hb d_L_law_256 rfl (lv_at hl 3 rfl) ?_
      refine lv_aload_n hx hb d_L_law_257 rfl (lv_at hl 5 rfl) ?_
      refine lv_iload hx hb d_L_law_258 (lv_at hl 1 rfl) ?_
      refine lv_iconst (v := 1) hx hb d_L_law_260 (by decide) ?_
      refine lv_iadd hx hb d_L_law_261 ?_
      refine va_sld hx hb hX hbl hbA hS (by unfold vp_in; decide) d_L_law_262 ?_
      refine lv_topi (fun y91 e92 => ?_)
      obtain rfl : y87 = y91 := e88.trans e92.symm
      have hPc := hP.sub (ws' := [(q17, .inr (6, [.int 0, .int 0, .ref g220, .int 0, .int 0, .int 0, .int 0, .int 0, .ref g821, .ref g922, .ref g1023, .ref g1124, .ref g1225, .ref g1326, .ref g1427, .ref g1528, .ref g1629, .ref g1730, .ref g1831, .ref g1932, .ref g2033, .ref g2134, .ref g2235, .ref g2336, .int 0, .int 0, .int 0, .int 0, .ref g2837, .int 0, .ref g3038, .ref g3139, .ref g3240, .int 0, .int 0, .int 0, .ref g3641]))]) [5] rfl
      have hKc := hK.sub (tys' := []) [] rfl
      have hDc := hD.sub (ws' := [(q17, .inr (6, [.int 0, .int 0, .ref g220, .int 0, .int 0, .int 0, .int 0, .int 0, .ref g821, .ref g922, .ref g1023, .ref g1124, .ref g1225, .ref g1326, .ref g1427, .ref g1528, .ref g1629, .ref g1730, .ref g1831, .ref g1932, .ref g2033, .ref g2134, .ref g2235, .ref g2336, .int 0, .int 0, .int 0, .int 0, .ref g2837, .int 0, .ref g3038, .ref g3139, .ref g3240, .int 0, .int 0, .int 0, .ref g3641]))]) [5] (by decide) rfl
      have hFc := va_free (wc := [(q17, .inr (6, [.int 0, .int 0, .ref g220, .int 0, .int 0, .int 0, .int 0, .int 0, .ref g821, .ref g922, .ref g1023, .ref g1124, .ref g1225, .ref g1326, .ref g1427, .ref g1528, .ref g1629, .ref g1730, .ref g1831, .ref g1932, .ref g2033, .ref g2134, .ref g2235, .ref g2336, .int 0, .int 0, .int 0, .int 0, .ref g2837, .int 0, .ref g3038, .ref g3139, .ref g3240, .int 0, .int 0, .int 0, .ref g3641]))]) hD hS hA [5] rfl
      refine va_calli (va_runV (C := "VotedTripleModel") (As := [.int y87]) (rest := []) ⟨hx, hb, hml, hown, hw⟩ (c_M_output_0 l dC dI q17 g220 g821 g922 g1023 g1124 g1225 g1326 g1427 g1528 g1629 g1730 g1831 g1932 g2033 g2134 g2235 g2336 g2837 g3038 g3139 g3240 g3641 y87 H.size) (cwV 1 hw (gdV (k_955) (k_952) (k_953) (k_954) (k_8)) rfl rfl rfl (by decide +kernel) ⟨Nat.le_of_ble_eq_true rfl, Nat.le_of_ble_eq_true rfl⟩) ⟨fun a U g mk q => by obtain ⟨q0, q1, qP, qK, qD⟩ := q; exact ⟨q0, q1, qP, va_K.moved (u := U) (U := U.calling g mk a) (Vm.Alike.refl U.vm) qK, qD⟩, va_recv hK hP rfl (q0 := 5) rfl, fun U hU hW => ⟨rfl, by rw [hU], by rw [hU]; exact hPc, va_K.moved hW.alike hKc, hDc.weaken (fun _ _ _ _ => trivial)⟩⟩ rfl rfl hl.1 rfl (lv_room (Nat.le_of_ble_eq_true rfl)) d_L_law_263 ⟨Nat.le_of_ble_eq_true rfl, Nat.le_of_ble_eq_true rfl⟩) hS (fun q _ h => hFc q h) hFc (fun r93 u9 t H1 locs ht hvm hr94 hB hz1 hk1 hS => ?_)
      obtain ⟨hP1, hK1, hD1⟩ := hB
      rw [ht] at hP1
      have hK1 := va_K.moved hvm.symm hK1
      try dsimp only at hr94 hP1 hK1 hD1
      obtain ⟨hP, hD⟩ := va_join (wr := [(a04, .inr (1, [.ref pw9, .int 0])), (pw9, .inl (cp10, 64, .inl (fun _ => 0))), (a26, .inr (3, [.ref er11, .int 0, .int 0, .int 0, .int 0, .int 0, .int 0, .ref eo12, .ref ew14, .int 0])), (eo12, .inr (5, [.ref ek13, .int 0])), (a37, .inr (4, [.ref nw15, .int 0])), (g220, .inl (cA42, 64, .inl (fun _ => 0))), (q43, .inl (cA44, 1, .inr (.inl (fun _ => 0))))]) (w1 := [(q17, .inr (6, [.int 1, .int 0, .ref g220, .int 0, .int 0, .int 0, .int 0, .int 0, .ref g821, .ref g922, .ref g1023, .ref g1124, .ref g1225, .ref g1326, .ref g1427, .ref g1528, .ref g1629, .ref g1730, .ref g1831, .ref g1932, .ref g2033, .ref g2134, .ref g2235, .ref g2336, .int 0, .int 0, .int 0, .int 0, .ref g2837, .int 0, .ref g3038, .ref g3139, .ref g3240, .int 0, .int 0, .int 0, .ref g3641]))]) hP hD [5] [0, 1, 2, 3, 4, 6, 7] rfl rfl (by decide) (by decide) hk1 hFc hP1 hD1
      have hK := (hK.sub (tys' := [(cp10, .int), (cA42, .int), (cA44, .long)]) [0, 1, 2] rfl).app hK1
      generalize H1 = H at hP hS ⊢
      have hP : va_P (dC, dI) classes [(a04, .inr (1, [.ref pw9, .int 0])), (pw9, .inl (cp10, 64, .inl (fun _ => 0))), (a26, .inr (3, [.ref er11, .int 0, .int 0, .int 0, .int 0, .int 0, .int 0, .ref eo12, .ref ew14, .int 0])), (eo12, .inr (5, [.ref ek13, .int 0])), (a37, .inr (4, [.ref nw15, .int 0])), (g220, .inl (cA42, 64, .inl (fun _ => 0))), (q43, .inl (cA44, 1, .inr (.inl (fun _ => 0)))), (q17, .inr (6, [.int 1, .int 0, .ref g220, .int 0, .int 0, .int 0, .int 0, .int 0, .ref g821, .ref g922, .ref g1023, .ref g1124, .ref g1225, .ref g1326, .ref g1427, .ref g1528, .ref g1629, .ref g1730, .ref g1831, .ref g1932, .ref g2033, .ref g2134, .ref g2235, .ref g2336, .int 0, .int 0, .int 0, .int 0, .ref g2837, .int 0, .ref g3038, .ref g3139, .ref g3240, .int 0, .int 0, .int 0, .ref g3641]))] H := hP
      have hD : va_D A [(a04, .inr (1, [.ref pw9, .int 0])), (pw9, .inl (cp10, 64, .inl (fun _ => 0))), (a26, .inr (3, [.ref er11, .int 0, .int 0, .int 0, .int 0, .int 0, .int 0, .ref eo12, .ref ew14, .int 0])), (eo12, .inr (5, [.ref ek13, .int 0])), (a37, .inr (4, [.ref nw15, .int 0])), (g220, .inl (cA42, 64, .inl (fun _ => 0))), (q43, .inl (cA44, 1, .inr (.inl (fun _ => 0)))), (q17, .inr (6, [.int 1, .int 0, .ref g220, .int 0, .int 0, .int 0, .int 0, .int 0, .ref g821, .ref g922, .ref g1023, .ref g1124, .ref g1225, .ref g1326, .ref g1427, .ref g1528, .ref g1629, .ref g1730, .ref g1831, .ref g1932, .ref g2033, .ref g2134, .ref g2235, .ref g2336, .int 0, .int 0, .int 0, .int 0, .ref g2837, .int 0, .ref g3038, .ref g3139, .ref g3240, .int 0, .int 0, .int 0, .ref g3641]))] := hD
      have hK : va_K (dC, dI) classes [(cp10, .int), (cA42, .int), (cA44, .long)] s := hK
      refine W.widen (k := 47) (n := 1951) (Nat.le_of_ble_eq_true rfl) (Nat.le_of_ble_eq_true rfl) ?_
      obtain rfl : r93 = 0 := hr94
      refine lv_istore hx hb d_L_law_266 hl (by decide) rfl (fun ls hl => ?_)
      have hl : lv_has ls 7 [(6, .int 0), (5, .int 1), (4, .int 0), (3, .ref q43), (2, .ref q17), (1, .ref q1), (0, .ref b)] := hl
      refine lv_aload_n hx hb d_L_law_268 rfl (lv_at hl 4 rfl) ?_
      have hPc := hP.sub (ws' := [(q17, .inr (6, [.int 1, .int 0, .ref g220, .int 0, .int 0, .int 0, .int 0, .int 0, .ref g821, .ref g922, .ref g1023, .ref g1124, .ref g1225, .ref g1326, .ref g1427, .ref g1528, .ref g1629, .ref g1730, .ref g1831, .ref g1932, .ref g2033, .ref g2134, .ref g2235, .ref g2336, .int 0, .int 0, .int 0, .int 0, .ref g2837, .int 0, .ref g3038, .ref g3139, .ref g3240, .int 0, .int 0, .int 0, .ref g3641]))]) [7] rfl
      have hKc := hK.sub (tys' := []) [] rfl
      refine vp_callSi (va_runV (C := "VotedTripleModel") (As := []) (rest := []) ⟨hx, hb, hml, hown, hw⟩ (c_M_thrown l dC dI q17 g220 g821 g922 g1023 g1124 g1225 g1326 g1427 g1528 g1629 g1730 g1831 g1932 g2033 g2134 g2235 g2336 g2837 g3038 g3139 g3240 g3641 1) (cwV 0 hw (gdV (k_839) (k_836) (k_837) (k_838) (k_8)) rfl rfl rfl (by decide +kernel) ⟨Nat.le_of_ble_eq_true rfl, Nat.le_of_ble_eq_true rfl⟩) ⟨fun a U g mk q => ⟨q.1, q.2.1, va_K.moved (u := U) (U := U.calling g mk a) (Vm.Alike.refl U.vm) q.2.2⟩, va_recv hK hP rfl (q0 := 7) rfl, fun U hU hW => ⟨rfl, by rw [hU]; exact hPc, va_K.moved hW.alike hKc⟩⟩ rfl rfl hl.1 rfl (lv_room (Nat.le_of_ble_eq_true rfl)) d_L_law_269 ⟨Nat.le_of_ble_eq_true rfl, Nat.le_of_ble_eq_true rfl⟩).run (fun r95 hr96 => ?_)
      subst hr96
      refine lv_iload hx hb d_L_law_272 (lv_at hl 1 rfl) ?_
      refine lv_icmp_eq (tgt := 279) hx hb d_L_law_274 rfl (fun hc97 => ?_) (fun hc97 => by first | exact absurd (rfl) hc97 | exact absurd hc97 (rfl))
      refine lv_iload hx hb d_L_law_279 (lv_at hl 1 rfl) ?_
      refine lv_if_ne (tgt := 296) hx hb d_L_law_281 rfl (fun hc98 => ?_) (fun hc98 => by first | exact absurd (by decide) hc98 | exact absurd hc98 (by decide))
      refine lv_goto (tgt := 705) hx hb d_L_law_296 rfl ?_
      refine lv_iinc (k := 2) (v := 5) hx hb d_L_law_705 hl rfl rfl (by decide) rfl (fun ls hl => ?_)
      have hl : lv_has ls 7 [(4, .int 5), (6, .int 0), (5, .int 1), (3, .ref q43), (2, .ref q17), (1, .ref q1), (0, .ref b)] := hl
      refine lv_goto (tgt := 23) hx hb d_L_law_708 rfl ?_
      refine lv_iload hx hb d_L_law_23 (lv_at hl 0 rfl) ?_
      refine lv_aload_n hx hb d_L_law_25 rfl (lv_at hl 6 rfl) ?_
      refine va_slen hx hb hX hbl hbA hS d_L_law_26 ?_
      refine lv_iconst (v := 5) hx hb d_L_law_27 (by decide) ?_
      refine lv_isub hx hb d_L_law_28 ?_
      refine lv_icmp_gt (tgt := 711) hx hb d_L_law_29 rfl (fun _ => ?_) (fun h9 => absurd (by decide) h9)
      refine lv_iconst (v := 1) hx hb d_L_law_711 (by decide) ?_
      refine va_forget (fun q hq => by have h9 := hS.2.2 q hq; rw [hAe] at h9; exact h9) ?_
      refine W.widen (k := 600002) (n := 7302232) (Nat.le_of_ble_eq_true rfl) (Nat.le_of_ble_eq_true rfl) ?_
      exact lw_ret hx hb hr hlocks d_L_law_712
    · refine lv_tableIn (off := 260) (tgt := 299) hx hb d_L_law_39 (by rw [hs47]; decide) (by rw [hs47]; decide) (by rw [hs47]; decide) rfl ?_
      refine lv_aload_n hx hb d_L_law_299 rfl (lv_at hl 3 rfl) ?_
      refine lv_aload_n hx hb d_L_law_300 rfl (lv_at hl 4 rfl) ?_
      refine lv_iload hx hb d_L_law_301 (lv_at hl 0 rfl) ?_
      refine lv_iconst (v := 1) hx hb d_L_law_303 (by decide) ?_
      refine lv_iadd hx hb d_L_law_304 ?_
      refine va_sld hx hb hX hbl hbA hS (by unfold vp_in; decide) d_L_law_305 ?_
      refine lv_topi (fun y99 e100 => ?_)
      refine lv_aload_n hx hb d_L_law_306 rfl (lv_at hl 1 rfl) ?_
      have hPc := hP.sub (ws' := [(q1, .inr (0, [.ref a04, .ref a15, .ref a26, .ref a37, .ref a48, .int 0, .int 0, .int 0, .int 0, .int 0, .int 0])), (a26, .inr (3, [.ref er11, .int 0, .int 0, .int 0, .int 0, .int 0, .int 0, .ref eo12, .ref ew14, .int 0])), (eo12, .inr (5, [.ref ek13, .int 0]))]) [0, 3, 4] rfl
      have hKc := hK.sub (tys' := []) [] rfl
      have hDc := hD.sub (ws' := [(q1, .inr (0, [.ref a04, .ref a15, .ref a26, .ref a37, .ref a48, .int 0, .int 0, .int 0, .int 0, .int 0, .int 0])), (a26, .inr (3, [.ref er11, .int 0, .int 0, .int 0, .int 0, .int 0, .int 0, .ref eo12, .ref ew14, .int 0])), (eo12, .inr (5, [.ref ek13, .int 0]))]) [0, 3, 4] (by decide) rfl
      have hFc := va_free (wc := [(q1, .inr (0, [.ref a04, .ref a15, .ref a26, .ref a37, .ref a48, .int 0, .int 0, .int 0, .int 0, .int 0, .int 0])), (a26, .inr (3, [.ref er11, .int 0, .int 0, .int 0, .int 0, .int 0, .int 0, .ref eo12, .ref ew14, .int 0])), (eo12, .inr (5, [.ref ek13, .int 0]))]) hD hS hA [0, 3, 4] rfl
      refine va_calli (tx_runS (n := 3) (As := [.ref q1, .int y99, .ref q43]) (rest := []) ⟨hx, hb, hml, hown, hw⟩ (c_L_perfect l hst dC dI q1 a04 a15 a26 a37 a48 0 0 0 0 0 er11 eo12 ew14 ek13 y99 q43 H.size) (gdx (k_697)) List.mem_cons_self rfl rfl ⟨Nat.le_of_ble_eq_true rfl, Nat.le_of_ble_eq_true rfl⟩ (hw _ k_0) (hw _ k_695) (hw _ k_696) (by decide +kernel) ⟨fun a U g mk q => by obtain ⟨q0, q1, qP, qK, qD, qN, qT⟩ := q; exact ⟨q0, q1, qP, va_K.moved (u := U) (U := U.calling g mk a) (Vm.Alike.refl U.vm) qK, qD, nw_vm (u := U) (U := U.calling g mk a) rfl qN, tw_vm (u := U) (U := U.calling g mk a) rfl qT⟩, fun U hU hW => ⟨rfl, by rw [hU], by rw [hU]; exact hPc, va_K.moved hW.alike hKc, hDc.weaken (fun _ _ _ _ => trivial), nw_warm hW hnw, by rw [hU]; exact tw_narrow (tw_warm hW (tw_kept htw (fun a h1 h2 => hS.2.1 a h1 h2))) (fun _ h => h.elim)⟩⟩ rfl rfl hl.1 rfl (lv_room (Nat.le_of_ble_eq_true rfl)) d_L_law_307 ⟨Nat.le_of_ble_eq_true rfl, Nat.le_of_ble_eq_true rfl⟩) hS (fun q _ h => hFc q h) hFc (fun r101 u9 t H1 locs ht hvm hr102 hB hz1 hk1 hS => ?_)
      obtain ⟨hP1, hK1, hD1⟩ := hB
      rw [ht] at hP1
      have hK1 := va_K.moved hvm.symm hK1
      try dsimp only at hr102 hP1 hK1 hD1
      obtain ⟨hP, hD⟩ := va_join (wr := [(a04, .inr (1, [.ref pw9, .int 0])), (pw9, .inl (cp10, 64, .inl (fun _ => 0))), (a37, .inr (4, [.ref nw15, .int 0])), (a48, .inr (5, [.ref ok16, .int 0])), (q17, .inr (6, [.int 0, .int 0, .ref g220, .int 0, .int 0, .int 0, .int 0, .int 0, .ref g821, .ref g922, .ref g1023, .ref g1124, .ref g1225, .ref g1326, .ref g1427, .ref g1528, .ref g1629, .ref g1730, .ref g1831, .ref g1932, .ref g2033, .ref g2134, .ref g2235, .ref g2336, .int 0, .int 0, .int 0, .int 0, .ref g2837, .int 0, .ref g3038, .ref g3139, .ref g3240, .int 0, .int 0, .int 0, .ref g3641])), (g220, .inl (cA42, 64, .inl (fun _ => 0))), (q43, .inl (cA44, 1, .inr (.inl (fun _ => 0))))]) (w1 := []) hP hD [0, 3, 4] [1, 2, 5, 6, 7, 8, 9] rfl rfl (by decide) (by decide) hk1 hFc hP1 hD1
      have hK := (hK.sub (tys' := [(cp10, .int), (cA42, .int), (cA44, .long)]) [0, 1, 2] rfl).app hK1
      generalize H1 = H at hP hS ⊢
      have hP : va_P (dC, dI) classes [(a04, .inr (1, [.ref pw9, .int 0])), (pw9, .inl (cp10, 64, .inl (fun _ => 0))), (a37, .inr (4, [.ref nw15, .int 0])), (a48, .inr (5, [.ref ok16, .int 0])), (q17, .inr (6, [.int 0, .int 0, .ref g220, .int 0, .int 0, .int 0, .int 0, .int 0, .ref g821, .ref g922, .ref g1023, .ref g1124, .ref g1225, .ref g1326, .ref g1427, .ref g1528, .ref g1629, .ref g1730, .ref g1831, .ref g1932, .ref g2033, .ref g2134, .ref g2235, .ref g2336, .int 0, .int 0, .int 0, .int 0, .ref g2837, .int 0, .ref g3038, .ref g3139, .ref g3240, .int 0, .int 0, .int 0, .ref g3641])), (g220, .inl (cA42, 64, .inl (fun _ => 0))), (q43, .inl (cA44, 1, .inr (.inl (fun _ => 0))))] H := hP
      have hD : va_D A [(a04, .inr (1, [.ref pw9, .int 0])), (pw9, .inl (cp10, 64, .inl (fun _ => 0))), (a37, .inr (4, [.ref nw15, .int 0])), (a48, .inr (5, [.ref ok16, .int 0])), (q17, .inr (6, [.int 0, .int 0, .ref g220, .int 0, .int 0, .int 0, .int 0, .int 0, .ref g821, .ref g922, .ref g1023, .ref g1124, .ref g1225, .ref g1326, .ref g1427, .ref g1528, .ref g1629, .ref g1730, .ref g1831, .ref g1932, .ref g2033, .ref g2134, .ref g2235, .ref g2336, .int 0, .int 0, .int 0, .int 0, .ref g2837, .int 0, .ref g3038, .ref g3139, .ref g3240, .int 0, .int 0, .int 0, .ref g3641])), (g220, .inl (cA42, 64, .inl (fun _ => 0))), (q43, .inl (cA44, 1, .inr (.inl (fun _ => 0))))] := hD
      have hK : va_K (dC, dI) classes [(cp10, .int), (cA42, .int), (cA44, .long)] s := hK
      refine W.widen (k := 47) (n := 1951) (Nat.le_of_ble_eq_true rfl) (Nat.le_of_ble_eq_true rfl) ?_
      obtain rfl : r101 = 1 := hr102
      refine lv_istore hx hb d_L_law_310 hl (by decide) rfl (fun ls hl => ?_)
      have hl : lv_has ls 7 [(5, .int 1), (4, .int 0), (3, .ref q43), (2, .ref q17), (1, .ref q1), (0, .ref b)] := hl
      refine lv_aload_n hx hb d_L_law_312 rfl (lv_at hl 3 rfl) ?_
      refine lv_aload_n hx hb d_L_law_313 rfl (lv_at hl 5 rfl) ?_
      refine lv_iload hx hb d_L_law_314 (lv_at hl 1 rfl) ?_
      refine lv_iconst (v := 1) hx hb d_L_law_316 (by decide) ?_
      refine lv_iadd hx hb d_L_law_317 ?_
      refine va_sld hx hb hX hbl hbA hS (by unfold vp_in; decide) d_L_law_318 ?_
      refine lv_topi (fun y103 e104 => ?_)
      obtain rfl : y99 = y103 := e100.trans e104.symm
      have hPc := hP.sub (ws' := [(q17, .inr (6, [.int 0, .int 0, .ref g220, .int 0, .int 0, .int 0, .int 0, .int 0, .ref g821, .ref g922, .ref g1023, .ref g1124, .ref g1225, .ref g1326, .ref g1427, .ref g1528, .ref g1629, .ref g1730, .ref g1831, .ref g1932, .ref g2033, .ref g2134, .ref g2235, .ref g2336, .int 0, .int 0, .int 0, .int 0, .ref g2837, .int 0, .ref g3038, .ref g3139, .ref g3240, .int 0, .int 0, .int 0, .ref g3641]))]) [4] rfl
      have hKc := hK.sub (tys' := []) [] rfl
      have hDc := hD.sub (ws' := [(q17, .inr (6, [.int 0, .int 0, .ref g220, .int 0, .int 0, .int 0, .int 0, .int 0, .ref g821, .ref g922, .ref g1023, .ref g1124, .ref g1225, .ref g1326, .ref g1427, .ref g1528, .ref g1629, .ref g1730, .ref g1831, .ref g1932, .ref g2033, .ref g2134, .ref g2235, .ref g2336, .int 0, .int 0, .int 0, .int 0, .ref g2837, .int 0, .ref g3038, .ref g3139, .ref g3240, .int 0, .int 0, .int 0, .ref g3641]))]) [4] (by decide) rfl
      have hFc := va_free (wc := [(q17, .inr (6, [.int 0, .int 0, .ref g220, .int 0, .int 0, .int 0, .int 0, .int 0, .ref g821, .ref g922, .ref g1023, .ref g1124, .ref g1225, .ref g1326, .ref g1427, .ref g1528, .ref g1629, .ref g1730, .ref g1831, .ref g1932, .ref g2033, .ref g2134, .ref g2235, .ref g2336, .int 0, .int 0, .int 0, .int 0, .ref g2837, .int 0, .ref g3038, .ref g3139, .ref g3240, .int 0, .int 0, .int 0, .ref g3641]))]) hD hS hA [4] rfl
      refine va_calli (va_runV (C := "VotedTripleModel") (As := [.int y99]) (rest := []) ⟨hx, hb, hml, hown, hw⟩ (c_M_perfect_0 l dC dI q17 g220 g821 g922 g1023 g1124 g1225 g1326 g1427 g1528 g1629 g1730 g1831 g1932 g2033 g2134 g2235 g2336 g2837 g3038 g3139 g3240 g3641 y99 H.size) (cwV 1 hw (gdV (k_959) (k_956) (k_957) (k_958) (k_8)) rfl rfl rfl (by decide +kernel) ⟨Nat.le_of_ble_eq_true rfl, Nat.le_of_ble_eq_true rfl⟩) ⟨fun a U g mk q => by obtain ⟨q0, q1, qP, qK, qD⟩ := q; exact ⟨q0, q1, qP, va_K.moved (u := U) (U := U.calling g mk a) (Vm.Alike.refl U.vm) qK, qD⟩, va_recv hK hP rfl (q0 := 4) rfl, fun U hU hW => ⟨rfl, by rw [hU], by rw [hU]; exact hPc, va_K.moved hW.alike hKc, hDc.weaken (fun _ _ _ _ => trivial)⟩⟩ rfl rfl hl.1 rfl (lv_room (Nat.le_of_ble_eq_true rfl)) d_L_law_319 ⟨Nat.le_of_ble_eq_true rfl, Nat.le_of_ble_eq_true rfl⟩) hS (fun q _ h => hFc q h) hFc (fun r105 u9 t H1 locs ht hvm hr106 hB hz1 hk1 hS => ?_)
      obtain ⟨hP1, hK1, hD1⟩ := hB
      rw [ht] at hP1
      have hK1 := va_K.moved hvm.symm hK1
      try dsimp only at hr106 hP1 hK1 hD1
      obtain ⟨hP, hD⟩ := va_join (wr := [(a04, .inr (1, [.ref pw9, .int 0])), (pw9, .inl (cp10, 64, .inl (fun _ => 0))), (a37, .inr (4, [.ref nw15, .int 0])), (a48, .inr (5, [.ref ok16, .int 0])), (g220, .inl (cA42, 64, .inl (fun _ => 0))), (q43, .inl (cA44, 1, .inr (.inl (fun _ => 0))))]) (w1 := [(q17, .inr (6, [.int 1, .int 0, .ref g220, .int 0, .int 0, .int 0, .int 0, .int 0, .ref g821, .ref g922, .ref g1023, .ref g1124, .ref g1225, .ref g1326, .ref g1427, .ref g1528, .ref g1629, .ref g1730, .ref g1831, .ref g1932, .ref g2033, .ref g2134, .ref g2235, .ref g2336, .int 0, .int 0, .int 0, .int 0, .ref g2837, .int 0, .ref g3038, .ref g3139, .ref g3240, .int 0, .int 0, .int 0, .ref g3641]))]) hP hD [4] [0, 1, 2, 3, 5, 6] rfl rfl (by decide) (by decide) hk1 hFc hP1 hD1
      have hK := (hK.sub (tys' := [(cp10, .int), (cA42, .int), (cA44, .long)]) [0, 1, 2] rfl).app hK1
      generalize H1 = H at hP hS ⊢
      have hP : va_P (dC, dI) classes [(a04, .inr (1, [.ref pw9, .int 0])), (pw9, .inl (cp10, 64, .inl (fun _ => 0))), (a37, .inr (4, [.ref nw15, .int 0])), (a48, .inr (5, [.ref ok16, .int 0])), (g220, .inl (cA42, 64, .inl (fun _ => 0))), (q43, .inl (cA44, 1, .inr (.inl (fun _ => 0)))), (q17, .inr (6, [.int 1, .int 0, .ref g220, .int 0, .int 0, .int 0, .int 0, .int 0, .ref g821, .ref g922, .ref g1023, .ref g1124, .ref g1225, .ref g1326, .ref g1427, .ref g1528, .ref g1629, .ref g1730, .ref g1831, .ref g1932, .ref g2033, .ref g2134, .ref g2235, .ref g2336, .int 0, .int 0, .int 0, .int 0, .ref g2837, .int 0, .ref g3038, .ref g3139, .ref g3240, .int 0, .int 0, .int 0, .ref g3641]))] H := hP
      have hD : va_D A [(a04, .inr (1, [.ref pw9, .int 0])), (pw9, .inl (cp10, 64, .inl (fun _ => 0))), (a37, .inr (4, [.ref nw15, .int 0])), (a48, .inr (5, [.ref ok16, .int 0])), (g220, .inl (cA42, 64, .inl (fun _ => 0))), (q43, .inl (cA44, 1, .inr (.inl (fun _ => 0)))), (q17, .inr (6, [.int 1, .int 0, .ref g220, .int 0, .int 0, .int 0, .int 0, .int 0, .ref g821, .ref g922, .ref g1023, .ref g1124, .ref g1225, .ref g1326, .ref g1427, .ref g1528, .ref g1629, .ref g1730, .ref g1831, .ref g1932, .ref g2033, .ref g2134, .ref g2235, .ref g2336, .int 0, .int 0, .int 0, .int 0, .ref g2837, .int 0, .ref g3038, .ref g3139, .ref g3240, .int 0, .int 0, .int 0, .ref g3641]))] := hD
      have hK : va_K (dC, dI) classes [(cp10, .int), (cA42, .int), (cA44, .long)] s := hK
      refine W.widen (k := 47) (n := 1951) (Nat.le_of_ble_eq_true rfl) (Nat.le_of_ble_eq_true rfl) ?_
      obtain rfl : r105 = 0 := hr106
      refine lv_istore hx hb d_L_law_322 hl (by decide) rfl (fun ls hl => ?_)
      have hl : lv_has ls 7 [(6, .int 0), (5, .int 1), (4, .int 0), (3, .ref q43), (2, .ref q17), (1, .ref q1), (0, .ref b)] := hl
      refine lv_aload_n hx hb d_L_law_324 rfl (lv_at hl 4 rfl) ?_
      have hPc := hP.sub (ws' := [(q17, .inr (6, [.int 1, .int 0, .ref g220, .int 0, .int 0, .int 0, .int 0, .int 0, .ref g821, .ref g922, .ref g1023, .ref g1124, .ref g1225, .ref g1326, .ref g1427, .ref g1528, .ref g1629, .ref g1730, .ref g1831, .ref g1932, .ref g2033, .ref g2134, .ref g2235, .ref g2336, .int 0, .int 0, .int 0, .int 0, .ref g2837, .int 0, .ref g3038, .ref g3139, .ref g3240, .int 0, .int 0, .int 0, .ref g3641]))]) [6] rfl
      have hKc := hK.sub (tys' := []) [] rfl
      refine vp_callSi (va_runV (C := "VotedTripleModel") (As := []) (rest := []) ⟨hx, hb, hml, hown, hw⟩ (c_M_thrown l dC dI q17 g220 g821 g922 g1023 g1124 g1225 g1326 g1427 g1528 g1629 g1730 g1831 g1932 g2033 g2134 g2235 g2336 g2837 g3038 g3139 g3240 g3641 1) (cwV 0 hw (gdV (k_839) (k_836) (k_837) (k_838) (k_8)) rfl rfl rfl (by decide +kernel) ⟨Nat.le_of_ble_eq_true rfl, Nat.le_of_ble_eq_true rfl⟩) ⟨fun a U g mk q => ⟨q.1, q.2.1, va_K.moved (u := U) (U := U.calling g mk a) (Vm.Alike.refl U.vm) q.2.2⟩, va_recv hK hP rfl (q0 := 6) rfl, fun U hU hW => ⟨rfl, by rw [hU]; exact hPc, va_K.moved hW.alike hKc⟩⟩ rfl rfl hl.1 rfl (lv_room (Nat.le_of_ble_eq_true rfl)) d_L_law_325 ⟨Nat.le_of_ble_eq_true rfl, Nat.le_of_ble_eq_true rfl⟩).run (fun r107 hr108 => ?_)
      subst hr108
      refine lv_iload hx hb d_L_law_328 (lv_at hl 1 rfl) ?_
      refine lv_icmp_eq (tgt := 335) hx hb d_L_law_330 rfl (fun hc109 => ?_) (fun hc109 => by first | exact absurd (rfl) hc109 | exact absurd hc109 (rfl))
      refine lv_iload hx hb d_L_law_335 (lv_at hl 1 rfl) ?_
      refine lv_if_ne (tgt := 352) hx hb d_L_law_337 rfl (fun hc110 => ?_) (fun hc110 => by first | exact absurd (by decide) hc110 | exact absurd hc110 (by decide))
      refine lv_goto (tgt := 705) hx hb d_L_law_352 rfl ?_
      refine lv_iinc (k := 2) (v := 5) hx hb d_L_law_705 hl rfl rfl (by decide) rfl (fun ls hl => ?_)
      have hl : lv_has ls 7 [(4, .int 5), (6, .int 0), (5, .int 1), (3, .ref q43), (2, .ref q17), (1, .ref q1), (0, .ref b)] := hl
      refine lv_goto (tgt := 23) hx hb d_L_law_708 rfl ?_
      refine lv_iload hx hb d_L_law_23 (lv_at hl 0 rfl) ?_
      refine lv_aload_n hx hb d_L_law_25 rfl (lv_at hl 6 rfl) ?_
      refine va_slen hx hb hX hbl hbA hS d_L_law_26 ?_
      refine lv_iconst (v := 5) hx hb d_L_law_27 (by decide) ?_
      refine lv_isub hx hb d_L_law_28 ?_
      refine lv_icmp_gt (tgt := 711) hx hb d_L_law_29 rfl (fun _ => ?_) (fun h9 => absurd (by decide) h9)
      refine lv_iconst (v := 1) hx hb d_L_law_711 (by decide) ?_
      refine va_forget (fun q hq => by have h9 := hS.2.2 q hq; rw [hAe] at h9; exact h9) ?_
      refine W.widen (k := 600002) (n := 7302232) (Nat.le_of_ble_eq_true rfl) (Nat.le_of_ble_eq_true rfl) ?_
      exact lw_ret hx hb hr hlocks d_L_law_712
    · refine lv_tableIn (off := 316) (tgt := 355) hx hb d_L_law_39 (by rw [hs47]; decide) (by rw [hs47]; decide) (by rw [hs47]; decide) rfl ?_
      refine lv_aload_n hx hb d_L_law_355 rfl (lv_at hl 3 rfl) ?_
      refine lv_aload_n hx hb d_L_law_356 rfl (lv_at hl 4 rfl) ?_
      refine lv_iload hx hb d_L_law_357 (lv_at hl 0 rfl) ?_
      refine lv_iconst (v := 1) hx hb d_L_law_359 (by decide) ?_
      refine lv_iadd hx hb d_L_law_360 ?_
      refine va_sld hx hb hX hbl hbA hS (by unfold vp_in; decide) d_L_law_361 ?_
      refine lv_topi (fun y111 e112 => ?_)
      refine lv_aload_n hx hb d_L_law_362 rfl (lv_at hl 4 rfl) ?_
      refine lv_iload hx hb d_L_law_363 (lv_at hl 0 rfl) ?_
      refine lv_iconst (v := 2) hx hb d_L_law_365 (by decide) ?_
      refine lv_iadd hx hb d_L_law_366 ?_
      refine va_sld hx hb hX hbl hbA hS (by unfold vp_in; decide) d_L_law_367 ?_
      refine lv_topi (fun y113 e114 => ?_)
      refine lv_aload_n hx hb d_L_law_368 rfl (lv_at hl 4 rfl) ?_
      refine lv_iload hx hb d_L_law_369 (lv_at hl 0 rfl) ?_
      refine lv_iconst (v := 3) hx hb d_L_law_371 (by decide) ?_
      refine lv_iadd hx hb d_L_law_372 ?_
      refine va_sld hx hb hX hbl hbA hS (by unfold vp_in; decide) d_L_law_373 ?_
      refine lv_topi (fun y115 e116 => ?_)
      refine lv_aload_n hx hb d_L_law_374 rfl (lv_at hl 4 rfl) ?_
      refine lv_iload hx hb d_L_law_375 (lv_at hl 0 rfl) ?_
      refine lv_iconst (v := 4) hx hb d_L_law_377 (by decide) ?_
      refine lv_iadd hx hb d_L_law_378 ?_
      refine va_sld hx hb hX hbl hbA hS (by unfold vp_in; decide) d_L_law_379 ?_
      refine lv_topi (fun y117 e118 => ?_)
      have hPc := hP.sub (ws' := [(q1, .inr (0, [.ref a04, .ref a15, .ref a26, .ref a37, .ref a48, .int 0, .int 0, .int 0, .int 0, .int 0, .int 0]))]) [0] rfl
      have hKc := hK.sub (tys' := []) [] rfl
      have hDc := hD.sub (ws' := [(q1, .inr (0, [.ref a04, .ref a15, .ref a26, .ref a37, .ref a48, .int 0, .int 0, .int 0, .int 0, .int 0, .int 0]))]) [0] (by decide) rfl
      have hFc := va_free (wc := [(q1, .inr (0, [.ref a04, .ref a15, .ref a26, .ref a37, .ref a48, .int 0, .int 0, .int 0, .int 0, .int 0, .int 0]))]) hD hS hA [0] rfl
      refine va_calli (tx_runS (n := 5) (As := [.ref q1, .int y111, .int y113, .int y115, .int y117]) (rest := []) ⟨hx, hb, hml, hown, hw⟩ (c_L_flip l hst dC dI q1 a04 a15 a26 a37 a48 0 0 0 0 0 y111 y113 y115 y117 H.size) (gdx (k_705)) List.mem_cons_self rfl rfl ⟨Nat.le_of_ble_eq_true rfl, Nat.le_of_ble_eq_true rfl⟩ (hw _ k_0) (hw _ k_703) (hw _ k_704) (by decide +kernel) ⟨fun a U g mk q => by obtain ⟨q0, q1, qP, qK, qD, qN, qT⟩ := q; exact ⟨q0, q1, qP, va_K.moved (u := U) (U := U.calling g mk a) (Vm.Alike.refl U.vm) qK, qD, nw_vm (u := U) (U := U.calling g mk a) rfl qN, tw_vm (u := U) (U := U.calling g mk a) rfl qT⟩, fun U hU hW => ⟨rfl, by rw [hU], by rw [hU]; exact hPc, va_K.moved hW.alike hKc, hDc.weaken (fun _ _ _ _ => trivial), nw_warm hW hnw, by rw [hU]; exact tw_narrow (tw_warm hW (tw_kept htw (fun a h1 h2 => hS.2.1 a h1 h2))) (fun _ h => h.elim)⟩⟩ rfl rfl hl.1 rfl (lv_room (Nat.le_of_ble_eq_true rfl)) d_L_law_380 ⟨Nat.le_of_ble_eq_true rfl, Nat.le_of_ble_eq_true rfl⟩) hS (fun q _ h => hFc q h) hFc (fun r119 u9 t H1 locs ht hvm hr120 hB hz1 hk1 hS => ?_)
      obtain ⟨hP1, hK1, hD1⟩ := hB
      rw [ht] at hP1
      have hK1 := va_K.moved hvm.symm hK1
      try dsimp only at hr120 hP1 hK1 hD1
      obtain ⟨hP, hD⟩ := va_join (wr := [(a04, .inr (1, [.ref pw9, .int 0])), (pw9, .inl (cp10, 64, .inl (fun _ => 0))), (a26, .inr (3, [.ref er11, .int 0, .int 0, .int 0, .int 0, .int 0, .int 0, .ref eo12, .ref ew14, .int 0])), (eo12, .inr (5, [.ref ek13, .int 0])), (a37, .inr (4, [.ref nw15, .int 0])), (a48, .inr (5, [.ref ok16, .int 0])), (q17, .inr (6, [.int 0, .int 0, .ref g220, .int 0, .int 0, .int 0, .int 0, .int 0, .ref g821, .ref g922, .ref g1023, .ref g1124, .ref g1225, .ref g1326, .ref g1427, .ref g1528, .ref g1629, .ref g1730, .ref g1831, .ref g1932, .ref g2033, .ref g2134, .ref g2235, .ref g2336, .int 0, .int 0, .int 0, .int 0, .ref g2837, .int 0, .ref g3038, .ref g3139, .ref g3240, .int 0, .int 0, .int 0, .ref g3641])), (g220, .inl (cA42, 64, .inl (fun _ => 0))), (q43, .inl (cA44, 1, .inr (.inl (fun _ => 0))))]) (w1 := []) hP hD [0] [1, 2, 3, 4, 5, 6, 7, 8, 9] rfl rfl (by decide) (by decide) hk1 hFc hP1 hD1
      have hK := (hK.sub (tys' := [(cp10, .int), (cA42, .int), (cA44, .long)]) [0, 1, 2] rfl).app hK1
      generalize H1 = H at hP hS ⊢
      have hP : va_P (dC, dI) classes [(a04, .inr (1, [.ref pw9, .int 0])), (pw9, .inl (cp10, 64, .inl (fun _ => 0))), (a26, .inr (3, [.ref er11, .int 0, .int 0, .int 0, .int 0, .int 0, .int 0, .ref eo12, .ref ew14, .int 0])), (eo12, .inr (5, [.ref ek13, .int 0])), (a37, .inr (4, [.ref nw15, .int 0])), (a48, .inr (5, [.ref ok16, .int 0])), (q17, .inr (6, [.int 0, .int 0, .ref g220, .int 0, .int 0, .int 0, .int 0, .int 0, .ref g821, .ref g922, .ref g1023, .ref g1124, .ref g1225, .ref g1326, .ref g1427, .ref g1528, .ref g1629, .ref g1730, .ref g1831, .ref g1932, .ref g2033, .ref g2134, .ref g2235, .ref g2336, .int 0, .int 0, .int 0, .int 0, .ref g2837, .int 0, .ref g3038, .ref g3139, .ref g3240, .int 0, .int 0, .int 0, .ref g3641])), (g220, .inl (cA42, 64, .inl (fun _ => 0))), (q43, .inl (cA44, 1, .inr (.inl (fun _ => 0))))] H := hP
      have hD : va_D A [(a04, .inr (1, [.ref pw9, .int 0])), (pw9, .inl (cp10, 64, .inl (fun _ => 0))), (a26, .inr (3, [.ref er11, .int 0, .int 0, .int 0, .int 0, .int 0, .int 0, .ref eo12, .ref ew14, .int 0])), (eo12, .inr (5, [.ref ek13, .int 0])), (a37, .inr (4, [.ref nw15, .int 0])), (a48, .inr (5, [.ref ok16, .int 0])), (q17, .inr (6, [.int 0, .int 0, .ref g220, .int 0, .int 0, .int 0, .int 0, .int 0, .ref g821, .ref g922, .ref g1023, .ref g1124, .ref g1225, .ref g1326, .ref g1427, .ref g1528, .ref g1629, .ref g1730, .ref g1831, .ref g1932, .ref g2033, .ref g2134, .ref g2235, .ref g2336, .int 0, .int 0, .int 0, .int 0, .ref g2837, .int 0, .ref g3038, .ref g3139, .ref g3240, .int 0, .int 0, .int 0, .ref g3641])), (g220, .inl (cA42, 64, .inl (fun _ => 0))), (q43, .inl (cA44, 1, .inr (.inl (fun _ => 0))))] := hD
      have hK : va_K (dC, dI) classes [(cp10, .int), (cA42, .int), (cA44, .long)] s := hK
      refine W.widen (k := 47) (n := 1951) (Nat.le_of_ble_eq_true rfl) (Nat.le_of_ble_eq_true rfl) ?_
      obtain rfl : r119 = 1 := hr120
      refine lv_istore hx hb d_L_law_383 hl (by decide) rfl (fun ls hl => ?_)
      have hl : lv_has ls 7 [(5, .int 1), (4, .int 0), (3, .ref q43), (2, .ref q17), (1, .ref q1), (0, .ref b)] := hl
      refine lv_aload_n hx hb d_L_law_385 rfl (lv_at hl 3 rfl) ?_
      refine lv_aload_n hx hb d_L_law_386 rfl (lv_at hl 5 rfl) ?_
      refine lv_iload hx hb d_L_law_387 (lv_at hl 1 rfl) ?_
      refine lv_iconst (v := 1) hx hb d_L_law_389 (by decide) ?_
      refine lv_iadd hx hb d_L_law_390 ?_
      refine va_sld hx hb hX hbl hbA hS (by unfold vp_in; decide) d_L_law_391 ?_
      refine lv_topi (fun y121 e122 => ?_)
      obtain rfl : y111 = y121 := e112.trans e122.symm
      refine lv_aload_n hx hb d_L_law_392 rfl (lv_at hl 5 rfl) ?_
      refine lv_iload hx hb d_L_law_393 (lv_at hl 1 rfl) ?_
      refine lv_iconst (v := 2) hx hb d_L_law_395 (by decide) ?_
      refine lv_iadd hx hb d_L_law_396 ?_
      refine va_sld hx hb hX hbl hbA hS (by unfold vp_in; decide) d_L_law_397 ?_
      refine lv_topi (fun y123 e124 => ?_)
      obtain rfl : y113 = y123 := e114.trans e124.symm
      refine lv_aload_n hx hb d_L_law_398 rfl (lv_at hl 5 rfl) ?_
      refine lv_iload hx hb d_L_law_399 (lv_at hl 1 rfl) ?_
      refine lv_iconst (v := 3) hx hb d_L_law_401 (by decide) ?_
      refine lv_iadd hx hb d_L_law_402 ?_
      refine va_sld hx hb hX hbl hbA hS (by unfold vp_in; decide) d_L_law_403 ?_
      refine lv_topi (fun y125 e126 => ?_)
      obtain rfl : y115 = y125 := e116.trans e126.symm
      refine lv_aload_n hx hb d_L_law_404 rfl (lv_at hl 5 rfl) ?_
      refine lv_iload hx hb d_L_law_405 (lv_at hl 1 rfl) ?_
      refine lv_iconst (v := 4) hx hb d_L_law_407 (by decide) ?_
      refine lv_iadd hx hb d_L_law_408 ?_
      refine va_sld hx hb hX hbl hbA hS (by unfold vp_in; decide) d_L_law_409 ?_
      refine lv_topi (fun y127 e128 => ?_)
      obtain rfl : y117 = y127 := e118.trans e128.symm
      have hPc := hP.sub (ws' := [(q17, .inr (6, [.int 0, .int 0, .ref g220, .int 0, .int 0, .int 0, .int 0, .int 0, .ref g821, .ref g922, .ref g1023, .ref g1124, .ref g1225, .ref g1326, .ref g1427, .ref g1528, .ref g1629, .ref g1730, .ref g1831, .ref g1932, .ref g2033, .ref g2134, .ref g2235, .ref g2336, .int 0, .int 0, .int 0, .int 0, .ref g2837, .int 0, .ref g3038, .ref g3139, .ref g3240, .int 0, .int 0, .int 0, .ref g3641]))]) [6] rfl
      have hKc := hK.sub (tys' := []) [] rfl
      have hDc := hD.sub (ws' := [(q17, .inr (6, [.int 0, .int 0, .ref g220, .int 0, .int 0, .int 0, .int 0, .int 0, .ref g821, .ref g922, .ref g1023, .ref g1124, .ref g1225, .ref g1326, .ref g1427, .ref g1528, .ref g1629, .ref g1730, .ref g1831, .ref g1932, .ref g2033, .ref g2134, .ref g2235, .ref g2336, .int 0, .int 0, .int 0, .int 0, .ref g2837, .int 0, .ref g3038, .ref g3139, .ref g3240, .int 0, .int 0, .int 0, .ref g3641]))]) [6] (by decide) rfl
      have hFc := va_free (wc := [(q17, .inr (6, [.int 0, .int 0, .ref g220, .int 0, .int 0, .int 0, .int 0, .int 0, .ref g821, .ref g922, .ref g1023, .ref g1124, .ref g1225, .ref g1326, .ref g1427, .ref g1528, .ref g1629, .ref g1730, .ref g1831, .ref g1932, .ref g2033, .ref g2134, .ref g2235, .ref g2336, .int 0, .int 0, .int 0, .int 0, .ref g2837, .int 0, .ref g3038, .ref g3139, .ref g3240, .int 0, .int 0, .int 0, .ref g3641]))]) hD hS hA [6] rfl
      refine va_callv (va_runV (C := "VotedTripleModel") (As := [.int y111, .int y113, .int y115, .int y117]) (rest := []) ⟨hx, hb, hml, hown, hw⟩ (c_M_flip_0 l dC dI q17 g220 g821 g922 g1023 g1124 g1225 g1326 g1427 g1528 g1629 g1730 g1831 g1932 g2033 g2134 g2235 g2336 g2837 g3038 g3139 g3240 g3641 y111 y113 y115 y117 H.size) (cwV 4 hw (gdV (k_963) (k_960) (k_961) (k_962) (k_8)) rfl rfl rfl (by decide +kernel) ⟨Nat.le_of_ble_eq_true rfl, Nat.le_of_ble_eq_true rfl⟩) ⟨fun a U g mk q => by obtain ⟨q0, q1, qP, qK, qD⟩ := q; exact ⟨q0, q1, qP, va_K.moved (u := U) (U := U.calling g mk a) (Vm.Alike.refl U.vm) qK, qD⟩, va_recv hK hP rfl (q0 := 6) rfl, fun U hU hW => ⟨rfl, by rw [hU], by rw [hU]; exact hPc, va_K.moved hW.alike hKc, hDc.weaken (fun _ _ _ _ => trivial)⟩⟩ rfl rfl hl.1 rfl (lv_room (Nat.le_of_ble_eq_true rfl)) d_L_law_410 ⟨Nat.le_of_ble_eq_true rfl, Nat.le_of_ble_eq_true rfl⟩) hS (fun q _ h => hFc q h) hFc (fun u9 t H1 locs ht hvm hr130 hB hz1 hk1 hS => ?_)
      obtain ⟨hP1, hK1, hD1⟩ := hB
      rw [ht] at hP1
      have hK1 := va_K.moved hvm.symm hK1
      try dsimp only at hr130 hP1 hK1 hD1
      obtain ⟨hP, hD⟩ := va_join (wr := [(a04, .inr (1, [.ref pw9, .int 0])), (pw9, .inl (cp10, 64, .inl (fun _ => 0))), (a26, .inr (3, [.ref er11, .int 0, .int 0, .int 0, .int 0, .int 0, .int 0, .ref eo12, .ref ew14, .int 0])), (eo12, .inr (5, [.ref ek13, .int 0])), (a37, .inr (4, [.ref nw15, .int 0])), (a48, .inr (5, [.ref ok16, .int 0])), (g220, .inl (cA42, 64, .inl (fun _ => 0))), (q43, .inl (cA44, 1, .inr (.inl (fun _ => 0))))]) (w1 := [(q17, .inr (6, [.int 1, .int 0, .ref g220, .int 0, .int 0, .int 0, .int 0, .int 0, .ref g821, .ref g922, .ref g1023, .ref g1124, .ref g1225, .ref g1326, .ref g1427, .ref g1528, .ref g1629, .ref g1730, .ref g1831, .ref g1932, .ref g2033, .ref g2134, .ref g2235, .ref g2336, .int 0, .int 0, .int 0, .int 0, .ref g2837, .int 0, .ref g3038, .ref g3139, .ref g3240, .int 0, .int 0, .int 0, .ref g3641]))]) hP hD [6] [0, 1, 2, 3, 4, 5, 7, 8] rfl rfl (by decide) (by decide) hk1 hFc hP1 hD1
      have hK := (hK.sub (tys' := [(cp10, .int), (cA42, .int), (cA44, .long)]) [0, 1, 2] rfl).app hK1
      generalize H1 = H at hP hS ⊢
      have hP : va_P (dC, dI) classes [(a04, .inr (1, [.ref pw9, .int 0])), (pw9, .inl (cp10, 64, .inl (fun _ => 0))), (a26, .inr (3, [.ref er11, .int 0, .int 0, .int 0, .int 0, .int 0, .int 0, .ref eo12, .ref ew14, .int 0])), (eo12, .inr (5, [.ref ek13, .int 0])), (a37, .inr (4, [.ref nw15, .int 0])), (a48, .inr (5, [.ref ok16, .int 0])), (g220, .inl (cA42, 64, .inl (fun _ => 0))), (q43, .inl (cA44, 1, .inr (.inl (fun _ => 0)))), (q17, .inr (6, [.int 1, .int 0, .ref g220, .int 0, .int 0, .int 0, .int 0, .int 0, .ref g821, .ref g922, .ref g1023, .ref g1124, .ref g1225, .ref g1326, .ref g1427, .ref g1528, .ref g1629, .ref g1730, .ref g1831, .ref g1932, .ref g2033, .ref g2134, .ref g2235, .ref g2336, .int 0, .int 0, .int 0, .int 0, .ref g2837, .int 0, .ref g3038, .ref g3139, .ref g3240, .int 0, .int 0, .int 0, .ref g3641]))] H := hP
      have hD : va_D A [(a04, .inr (1, [.ref pw9, .int 0])), (pw9, .inl (cp10, 64, .inl (fun _ => 0))), (a26, .inr (3, [.ref er11, .int 0, .int 0, .int 0, .int 0, .int 0, .int 0, .ref eo12, .ref ew14, .int 0])), (eo12, .inr (5, [.ref ek13, .int 0])), (a37, .inr (4, [.ref nw15, .int 0])), (a48, .inr (5, [.ref ok16, .int 0])), (g220, .inl (cA42, 64, .inl (fun _ => 0))), (q43, .inl (cA44, 1, .inr (.inl (fun _ => 0)))), (q17, .inr (6, [.int 1, .int 0, .ref g220, .int 0, .int 0, .int 0, .int 0, .int 0, .ref g821, .ref g922, .ref g1023, .ref g1124, .ref g1225, .ref g1326, .ref g1427, .ref g1528, .ref g1629, .ref g1730, .ref g1831, .ref g1932, .ref g2033, .ref g2134, .ref g2235, .ref g2336, .int 0, .int 0, .int 0, .int 0, .ref g2837, .int 0, .ref g3038, .ref g3139, .ref g3240, .int 0, .int 0, .int 0, .ref g3641]))] := hD
      have hK : va_K (dC, dI) classes [(cp10, .int), (cA42, .int), (cA44, .long)] s := hK
      refine W.widen (k := 47) (n := 1951) (Nat.le_of_ble_eq_true rfl) (Nat.le_of_ble_eq_true rfl) ?_
      refine lv_aload_n hx hb d_L_law_413 rfl (lv_at hl 3 rfl) ?_
      have hPc := hP.sub (ws' := [(q17, .inr (6, [.int 1, .int 0, .ref g220, .int 0, .int 0, .int 0, .int 0, .int 0, .ref g821, .ref g922, .ref g1023, .ref g1124, .ref g1225, .ref g1326, .ref g1427, .ref g1528, .ref g1629, .ref g1730, .ref g1831, .ref g1932, .ref g2033, .ref g2134, .ref g2235, .ref g2336, .int 0, .int 0, .int 0, .int 0, .ref g2837, .int 0, .ref g3038, .ref g3139, .ref g3240, .int 0, .int 0, .int 0, .ref g3641]))]) [8] rfl
      have hKc := hK.sub (tys' := []) [] rfl
      refine vp_callSi (va_runV (C := "VotedTripleModel") (As := []) (rest := []) ⟨hx, hb, hml, hown, hw⟩ (c_M_thrown l dC dI q17 g220 g821 g922 g1023 g1124 g1225 g1326 g1427 g1528 g1629 g1730 g1831 g1932 g2033 g2134 g2235 g2336 g2837 g3038 g3139 g3240 g3641 1) (cwV 0 hw (gdV (k_839) (k_836) (k_837) (k_838) (k_8)) rfl rfl rfl (by decide +kernel) ⟨Nat.le_of_ble_eq_true rfl, Nat.le_of_ble_eq_true rfl⟩) ⟨fun a U g mk q => ⟨q.1, q.2.1, va_K.moved (u := U) (U := U.calling g mk a) (Vm.Alike.refl U.vm) q.2.2⟩, va_recv hK hP rfl (q0 := 8) rfl, fun U hU hW => ⟨rfl, by rw [hU]; exact hPc, va_K.moved hW.alike hKc⟩⟩ rfl rfl hl.1 rfl (lv_room (Nat.le_of_ble_eq_true rfl)) d_L_law_414 ⟨Nat.le_of_ble_eq_true rfl, Nat.le_of_ble_eq_true rfl⟩).run (fun r131 hr132 => ?_)
      subst hr132
      refine lv_iload hx hb d_L_law_417 (lv_at hl 0 rfl) ?_
      refine lv_icmp_eq (tgt := 424) hx hb d_L_law_419 rfl (fun hc133 => ?_) (fun hc133 => by first | exact absurd (rfl) hc133 | exact absurd hc133 (rfl))
      refine lv_goto (tgt := 705) hx hb d_L_law_424 rfl ?_
      refine lv_iinc (k := 1) (v := 5) hx hb d_L_law_705 hl rfl rfl (by decide) rfl (fun ls hl => ?_)
      have hl : lv_has ls 7 [(4, .int 5), (5, .int 1), (3, .ref q43), (2, .ref q17), (1, .ref q1), (0, .ref b)] := hl
      refine lv_goto (tgt := 23) hx hb d_L_law_708 rfl ?_
      refine lv_iload hx hb d_L_law_23 (lv_at hl 0 rfl) ?_
      refine lv_aload_n hx hb d_L_law_25 rfl (lv_at hl 5 rfl) ?_
      refine va_slen hx hb hX hbl hbA hS d_L_law_26 ?_
      refine lv_iconst (v := 5) hx hb d_L_law_27 (by decide) ?_
      refine lv_isub hx hb d_L_law_28 ?_
      refine lv_icmp_gt (tgt := 711) hx hb d_L_law_29 rfl (fun _ => ?_) (fun h9 => absurd (by decide) h9)
      refine lv_iconst (v := 1) hx hb d_L_law_711 (by decide) ?_
      refine va_forget (fun q hq => by have h9 := hS.2.2 q hq; rw [hAe] at h9; exact h9) ?_
      refine W.widen (k := 600002) (n := 7302232) (Nat.le_of_ble_eq_true rfl) (Nat.le_of_ble_eq_true rfl) ?_
      exact lw_ret hx hb hr hlocks d_L_law_712
    · refine lv_tableIn (off := 388) (tgt := 427) hx hb d_L_law_39 (by rw [hs47]; decide) (by rw [hs47]; decide) (by rw [hs47]; decide) rfl ?_
      refine lv_aload_n hx hb d_L_law_427 rfl (lv_at hl 3 rfl) ?_
      refine lv_aload_n hx hb d_L_law_428 rfl (lv_at hl 4 rfl) ?_
      refine lv_iload hx hb d_L_law_429 (lv_at hl 0 rfl) ?_
      refine lv_iconst (v := 1) hx hb d_L_law_431 (by decide) ?_
      refine lv_iadd hx hb d_L_law_432 ?_
      refine va_sld hx hb hX hbl hbA hS (by unfold vp_in; decide) d_L_law_433 ?_
      refine lv_topi (fun y134 e135 => ?_)
      refine lv_aload_n hx hb d_L_law_434 rfl (lv_at hl 4 rfl) ?_
      refine lv_iload hx hb d_L_law_435 (lv_at hl 0 rfl) ?_
      refine lv_iconst (v := 2) hx hb d_L_law_437 (by decide) ?_
      refine lv_iadd hx hb d_L_law_438 ?_
      refine va_sld hx hb hX hbl hbA hS (by unfold vp_in; decide) d_L_law_439 ?_
      refine lv_topi (fun y136 e137 => ?_)
      refine lv_if_eq (tgt := 447) hx hb d_L_law_440 rfl (fun hc138 => ?_) (fun hc138 => ?_)
      · --  y136 = 0
        refine lv_iconst (v := 0) hx hb d_L_law_447 (by decide) ?_
        have hPc := hP.sub (ws' := [(q1, .inr (0, [.ref a04, .ref a15, .ref a26, .ref a37, .ref a48, .int 0, .int 0, .int 0, .int 0, .int 0, .int 0]))]) [0] rfl
        have hKc := hK.sub (tys' := []) [] rfl
        refine vp_callSi (va_runV (C := "VotedTriple") (As := [.int y134, .int 0]) (rest := []) ⟨hx, hb, hml, hown, hw⟩ (c_T_freeze_0 l dC dI q1 a04 a15 a26 a37 a48 0 0 0 0 0 y134 0) (cwV 2 hw (gdV (k_335) (k_332) (k_333) (k_334) (k_1)) rfl rfl rfl (by decide +kernel) ⟨Nat.le_of_ble_eq_true rfl, Nat.le_of_ble_eq_true rfl⟩) ⟨fun a U g mk q => ⟨q.1, q.2.1, va_K.moved (u := U) (U := U.calling g mk a) (Vm.Alike.refl U.vm) q.2.2⟩, va_recv hK hP rfl (q0 := 0) rfl, fun U hU hW => ⟨rfl, by rw [hU]; exact hPc, va_K.moved hW.alike hKc⟩⟩ rfl rfl hl.1 rfl (lv_room (Nat.le_of_ble_eq_true rfl)) d_L_law_448 ⟨Nat.le_of_ble_eq_true rfl, Nat.le_of_ble_eq_true rfl⟩).run (fun r139 hr140 => ?_)
        subst hr140
        refine lv_aload_n hx hb d_L_law_451 rfl (lv_at hl 2 rfl) ?_
        refine lv_aload_n hx hb d_L_law_452 rfl (lv_at hl 4 rfl) ?_
        refine lv_iload hx hb d_L_law_453 (lv_at hl 0 rfl) ?_
        refine lv_iconst (v := 1) hx hb d_L_law_455 (by decide) ?_
        refine lv_iadd hx hb d_L_law_456 ?_
        refine va_sld hx hb hX hbl hbA hS (by unfold vp_in; decide) d_L_law_457 ?_
        refine lv_topi (fun y141 e142 => ?_)
        obtain rfl : y134 = y141 := e135.trans e142.symm
        refine lv_aload_n hx hb d_L_law_458 rfl (lv_at hl 4 rfl) ?_
        refine lv_iload hx hb d_L_law_459 (lv_at hl 0 rfl) ?_
        refine lv_iconst (v := 2) hx hb d_L_law_461 (by decide) ?_
        refine lv_iadd hx hb d_L_law_462 ?_
        refine va_sld hx hb hX hbl hbA hS (by unfold vp_in; decide) d_L_law_463 ?_
        refine lv_topi (fun y143 e144 => ?_)
        obtain rfl : y136 = y143 := e137.trans e144.symm
        refine lv_if_eq (tgt := 471) hx hb d_L_law_464 rfl (fun hc145 => ?_) (fun hc145 => by first | exact absurd (hc138) hc145 | exact absurd hc145 (hc138))
        refine lv_iconst (v := 0) hx hb d_L_law_471 (by decide) ?_
        have hPc := hP.sub (ws' := [(q17, .inr (6, [.int 0, .int 0, .ref g220, .int 0, .int 0, .int 0, .int 0, .int 0, .ref g821, .ref g922, .ref g1023, .ref g1124, .ref g1225, .ref g1326, .ref g1427, .ref g1528, .ref g1629, .ref g1730, .ref g1831, .ref g1932, .ref g2033, .ref g2134, .ref g2235, .ref g2336, .int 0, .int 0, .int 0, .int 0, .ref g2837, .int 0, .ref g3038, .ref g3139, .ref g3240, .int 0, .int 0, .int 0, .ref g3641]))]) [7] rfl
        have hKc := hK.sub (tys' := []) [] rfl
        have hDc := hD.sub (ws' := [(q17, .inr (6, [.int 0, .int 0, .ref g220, .int 0, .int 0, .int 0, .int 0, .int 0, .ref g821, .ref g922, .ref g1023, .ref g1124, .ref g1225, .ref g1326, .ref g1427, .ref g1528, .ref g1629, .ref g1730, .ref g1831, .ref g1932, .ref g2033, .ref g2134, .ref g2235, .ref g2336, .int 0, .int 0, .int 0, .int 0, .ref g2837, .int 0, .ref g3038, .ref g3139, .ref g3240, .int 0, .int 0, .int 0, .ref g3641]))]) [7] (by decide) rfl
        have hFc := va_free (wc := [(q17, .inr (6, [.int 0, .int 0, .ref g220, .int 0, .int 0, .int 0, .int 0, .int 0, .ref g821, .ref g922, .ref g1023, .ref g1124, .ref g1225, .ref g1326, .ref g1427, .ref g1528, .ref g1629, .ref g1730, .ref g1831, .ref g1932, .ref g2033, .ref g2134, .ref g2235, .ref g2336, .int 0, .int 0, .int 0, .int 0, .ref g2837, .int 0, .ref g3038, .ref g3139, .ref g3240, .int 0, .int 0, .int 0, .ref g3641]))]) hD hS hA [7] rfl
        refine va_calli (va_runV (C := "VotedTripleModel") (As := [.int y134, .int 0]) (rest := [.int 0]) ⟨hx, hb, hml, hown, hw⟩ (c_M_freeze_0 l dC dI q17 g220 g821 g922 g1023 g1124 g1225 g1326 g1427 g1528 g1629 g1730 g1831 g1932 g2033 g2134 g2235 g2336 g2837 g3038 g3139 g3240 g3641 y134 0 H.size) (cwV 2 hw (gdV (k_970) (k_967) (k_968) (k_969) (k_8)) rfl rfl rfl (by decide +kernel) ⟨Nat.le_of_ble_eq_true rfl, Nat.le_of_ble_eq_true rfl⟩) ⟨fun a U g mk q => by obtain ⟨q0, q1, qP, qK, qD⟩ := q; exact ⟨q0, q1, qP, va_K.moved (u := U) (U := U.calling g mk a) (Vm.Alike.refl U.vm) qK, qD⟩, va_recv hK hP rfl (q0 := 7) rfl, fun U hU hW => ⟨rfl, by rw [hU], by rw [hU]; exact hPc, va_K.moved hW.alike hKc, hDc.weaken (fun _ _ _ _ => trivial)⟩⟩ rfl rfl hl.1 rfl (lv_room (Nat.le_of_ble_eq_true rfl)) d_L_law_472 ⟨Nat.le_of_ble_eq_true rfl, Nat.le_of_ble_eq_true rfl⟩) hS (fun q _ h => hFc q h) hFc (fun r146 u9 t H1 locs ht hvm hr147 hB hz1 hk1 hS => ?_)
        obtain ⟨hP1, hK1, hD1⟩ := hB
        rw [ht] at hP1
        have hK1 := va_K.moved hvm.symm hK1
        try dsimp only at hr147 hP1 hK1 hD1
        obtain ⟨hP, hD⟩ := va_join (wr := [(q1, .inr (0, [.ref a04, .ref a15, .ref a26, .ref a37, .ref a48, .int 0, .int 0, .int 0, .int 0, .int 0, .int 0])), (a04, .inr (1, [.ref pw9, .int 0])), (pw9, .inl (cp10, 64, .inl (fun _ => 0))), (a26, .inr (3, [.ref er11, .int 0, .int 0, .int 0, .int 0, .int 0, .int 0, .ref eo12, .ref ew14, .int 0])), (eo12, .inr (5, [.ref ek13, .int 0])), (a37, .inr (4, [.ref nw15, .int 0])), (a48, .inr (5, [.ref ok16, .int 0])), (g220, .inl (cA42, 64, .inl (fun _ => 0))), (q43, .inl (cA44, 1, .inr (.inl (fun _ => 0))))]) (w1 := []) hP hD [7] [0, 1, 2, 3, 4, 5, 6, 8, 9] rfl rfl (by decide) (by decide) hk1 hFc hP1 hD1
        have hK := (hK.sub (tys' := [(cp10, .int), (cA42, .int), (cA44, .long)]) [0, 1, 2] rfl).app hK1
        generalize H1 = H at hP hS ⊢
        have hP : va_P (dC, dI) classes [(q1, .inr (0, [.ref a04, .ref a15, .ref a26, .ref a37, .ref a48, .int 0, .int 0, .int 0, .int 0, .int 0, .int 0])), (a04, .inr (1, [.ref pw9, .int 0])), (pw9, .inl (cp10, 64, .inl (fun _ => 0))), (a26, .inr (3, [.ref er11, .int 0, .int 0, .int 0, .int 0, .int 0, .int 0, .ref eo12, .ref ew14, .int 0])), (eo12, .inr (5, [.ref ek13, .int 0])), (a37, .inr (4, [.ref nw15, .int 0])), (a48, .inr (5, [.ref ok16, .int 0])), (g220, .inl (cA42, 64, .inl (fun _ => 0))), (q43, .inl (cA44, 1, .inr (.inl (fun _ => 0))))] H := hP
        have hD : va_D A [(q1, .inr (0, [.ref a04, .ref a15, .ref a26, .ref a37, .ref a48, .int 0, .int 0, .int 0, .int 0, .int 0, .int 0])), (a04, .inr (1, [.ref pw9, .int 0])), (pw9, .inl (cp10, 64, .inl (fun _ => 0))), (a26, .inr (3, [.ref er11, .int 0, .int 0, .int 0, .int 0, .int 0, .int 0, .ref eo12, .ref ew14, .int 0])), (eo12, .inr (5, [.ref ek13, .int 0])), (a37, .inr (4, [.ref nw15, .int 0])), (a48, .inr (5, [.ref ok16, .int 0])), (g220, .inl (cA42, 64, .inl (fun _ => 0))), (q43, .inl (cA44, 1, .inr (.inl (fun _ => 0))))] := hD
        have hK : va_K (dC, dI) classes [(cp10, .int), (cA42, .int), (cA44, .long)] s := hK
        refine W.widen (k := 46) (n := 1945) (Nat.le_of_ble_eq_true rfl) (Nat.le_of_ble_eq_true rfl) ?_
        obtain rfl : r146 = 0 := hr147
        refine lv_icmp_eq (tgt := 705) hx hb d_L_law_475 rfl (fun hc148 => ?_) (fun hc148 => by first | exact absurd (rfl) hc148 | exact absurd hc148 (rfl))
        refine lv_iinc (k := 0) (v := 5) hx hb d_L_law_705 hl rfl rfl (by decide) rfl (fun ls hl => ?_)
        have hl : lv_has ls 7 [(4, .int 5), (3, .ref q43), (2, .ref q17), (1, .ref q1), (0, .ref b)] := hl
        refine lv_goto (tgt := 23) hx hb d_L_law_708 rfl ?_
        refine lv_iload hx hb d_L_law_23 (lv_at hl 0 rfl) ?_
        refine lv_aload_n hx hb d_L_law_25 rfl (lv_at hl 4 rfl) ?_
        refine va_slen hx hb hX hbl hbA hS d_L_law_26 ?_
        refine lv_iconst (v := 5) hx hb d_L_law_27 (by decide) ?_
        refine lv_isub hx hb d_L_law_28 ?_
        refine lv_icmp_gt (tgt := 711) hx hb d_L_law_29 rfl (fun _ => ?_) (fun h9 => absurd (by decide) h9)
        refine lv_iconst (v := 1) hx hb d_L_law_711 (by decide) ?_
        refine va_forget (fun q hq => by have h9 := hS.2.2 q hq; rw [hAe] at h9; exact h9) ?_
        refine W.widen (k := 600002) (n := 7302232) (Nat.le_of_ble_eq_true rfl) (Nat.le_of_ble_eq_true rfl) ?_
        exact lw_ret hx hb hr hlocks d_L_law_712
      · --  ¬ y136 = 0
        refine lv_iconst (v := 1) hx hb d_L_law_443 (by decide) ?_
        refine lv_goto (tgt := 448) hx hb d_L_law_444 rfl ?_
        have hPc := hP.sub (ws' := [(q1, .inr (0, [.ref a04, .ref a15, .ref a26, .ref a37, .ref a48, .int 0, .int 0, .int 0, .int 0, .int 0, .int 0]))]) [0] rfl
        have hKc := hK.sub (tys' := []) [] rfl
        refine vp_callSi (va_runV (C := "VotedTriple") (As := [.int y134, .int 1]) (rest := []) ⟨hx, hb, hml, hown, hw⟩ (c_T_freeze_0 l dC dI q1 a04 a15 a26 a37 a48 0 0 0 0 0 y134 1) (cwV 2 hw (gdV (k_335) (k_332) (k_333) (k_334) (k_1)) rfl rfl rfl (by decide +kernel) ⟨Nat.le_of_ble_eq_true rfl, Nat.le_of_ble_eq_true rfl⟩) ⟨fun a U g mk q => ⟨q.1, q.2.1, va_K.moved (u := U) (U := U.calling g mk a) (Vm.Alike.refl U.vm) q.2.2⟩, va_recv hK hP rfl (q0 := 0) rfl, fun U hU hW => ⟨rfl, by rw [hU]; exact hPc, va_K.moved hW.alike hKc⟩⟩ rfl rfl hl.1 rfl (lv_room (Nat.le_of_ble_eq_true rfl)) d_L_law_448 ⟨Nat.le_of_ble_eq_true rfl, Nat.le_of_ble_eq_true rfl⟩).run (fun r149 hr150 => ?_)
        subst hr150
        refine lv_aload_n hx hb d_L_law_451 rfl (lv_at hl 2 rfl) ?_
        refine lv_aload_n hx hb d_L_law_452 rfl (lv_at hl 4 rfl) ?_
        refine lv_iload hx hb d_L_law_453 (lv_at hl 0 rfl) ?_
        refine lv_iconst (v := 1) hx hb d_L_law_455 (by decide) ?_
        refine lv_iadd hx hb d_L_law_456 ?_
        refine va_sld hx hb hX hbl hbA hS (by unfold vp_in; decide) d_L_law_457 ?_
        refine lv_topi (fun y151 e152 => ?_)
        obtain rfl : y134 = y151 := e135.trans e152.symm
        refine lv_aload_n hx hb d_L_law_458 rfl (lv_at hl 4 rfl) ?_
        refine lv_iload hx hb d_L_law_459 (lv_at hl 0 rfl) ?_
        refine lv_iconst (v := 2) hx hb d_L_law_461 (by decide) ?_
        refine lv_iadd hx hb d_L_law_462 ?_
        refine va_sld hx hb hX hbl hbA hS (by unfold vp_in; decide) d_L_law_463 ?_
        refine lv_topi (fun y153 e154 => ?_)
        obtain rfl : y136 = y153 := e137.trans e154.symm
        refine lv_if_eq (tgt := 471) hx hb d_L_law_464 rfl (fun hc155 => by first | exact absurd hc155 (hc138) | exact absurd (hc138) hc155) (fun hc155 => ?_)
        refine lv_iconst (v := 1) hx hb d_L_law_467 (by decide) ?_
        refine lv_goto (tgt := 472) hx hb d_L_law_468 rfl ?_
        have hPc := hP.sub (ws' := [(q17, .inr (6, [.int 0, .int 0, .ref g220, .int 0, .int 0, .int 0, .int 0, .int 0, .ref g821, .ref g922, .ref g1023, .ref g1124, .ref g1225, .ref g1326, .ref g1427, .ref g1528, .ref g1629, .ref g1730, .ref g1831, .ref g1932, .ref g2033, .ref g2134, .ref g2235, .ref g2336, .int 0, .int 0, .int 0, .int 0, .ref g2837, .int 0, .ref g3038, .ref g3139, .ref g3240, .int 0, .int 0, .int 0, .ref g3641]))]) [7] rfl
        have hKc := hK.sub (tys' := []) [] rfl
        have hDc := hD.sub (ws' := [(q17, .inr (6, [.int 0, .int 0, .ref g220, .int 0, .int 0, .int 0, .int 0, .int 0, .ref g821, .ref g922, .ref g1023, .ref g1124, .ref g1225, .ref g1326, .ref g1427, .ref g1528, .ref g1629, .ref g1730, .ref g1831, .ref g1932, .ref g2033, .ref g2134, .ref g2235, .ref g2336, .int 0, .int 0, .int 0, .int 0, .ref g2837, .int 0, .ref g3038, .ref g3139, .ref g3240, .int 0, .int 0, .int 0, .ref g3641]))]) [7] (by decide) rfl
        have hFc := va_free (wc := [(q17, .inr (6, [.int 0, .int 0, .ref g220, .int 0, .int 0, .int 0, .int 0, .int 0, .ref g821, .ref g922, .ref g1023, .ref g1124, .ref g1225, .ref g1326, .ref g1427, .ref g1528, .ref g1629, .ref g1730, .ref g1831, .ref g1932, .ref g2033, .ref g2134, .ref g2235, .ref g2336, .int 0, .int 0, .int 0, .int 0, .ref g2837, .int 0, .ref g3038, .ref g3139, .ref g3240, .int 0, .int 0, .int 0, .ref g3641]))]) hD hS hA [7] rfl
        refine va_calli (va_runV (C := "VotedTripleModel") (As := [.int y134, .int 1]) (rest := [.int 0]) ⟨hx, hb, hml, hown, hw⟩ (c_M_freeze_0 l dC dI q17 g220 g821 g922 g1023 g1124 g1225 g1326 g1427 g1528 g1629 g1730 g1831 g1932 g2033 g2134 g2235 g2336 g2837 g3038 g3139 g3240 g3641 y134 1 H.size) (cwV 2 hw (gdV (k_970) (k_967) (k_968) (k_969) (k_8)) rfl rfl rfl (by decide +kernel) ⟨Nat.le_of_ble_eq_true rfl, Nat.le_of_ble_eq_true rfl⟩) ⟨fun a U g mk q => by obtain ⟨q0, q1, qP, qK, qD⟩ := q; exact ⟨q0, q1, qP, va_K.moved (u := U) (U := U.calling g mk a) (Vm.Alike.refl U.vm) qK, qD⟩, va_recv hK hP rfl (q0 := 7) rfl, fun U hU hW => ⟨rfl, by rw [hU], by rw [hU]; exact hPc, va_K.moved hW.alike hKc, hDc.weaken (fun _ _ _ _ => trivial)⟩⟩ rfl rfl hl.1 rfl (lv_room (Nat.le_of_ble_eq_true rfl)) d_L_law_472 ⟨Nat.le_of_ble_eq_true rfl, Nat.le_of_ble_eq_true rfl⟩) hS (fun q _ h => hFc q h) hFc (fun r156 u9 t H1 locs ht hvm hr157 hB hz1 hk1 hS => ?_)
        obtain ⟨hP1, hK1, hD1⟩ := hB
        rw [ht] at hP1
        have hK1 := va_K.moved hvm.symm hK1
        try dsimp only at hr157 hP1 hK1 hD1
        obtain ⟨hP, hD⟩ := va_join (wr := [(q1, .inr (0, [.ref a04, .ref a15, .ref a26, .ref a37, .ref a48, .int 0, .int 0, .int 0, .int 0, .int 0, .int 0])), (a04, .inr (1, [.ref pw9, .int 0])), (pw9, .inl (cp10, 64, .inl (fun _ => 0))), (a26, .inr (3, [.ref er11, .int 0, .int 0, .int 0, .int 0, .int 0, .int 0, .ref eo12, .ref ew14, .int 0])), (eo12, .inr (5, [.ref ek13, .int 0])), (a37, .inr (4, [.ref nw15, .int 0])), (a48, .inr (5, [.ref ok16, .int 0])), (g220, .inl (cA42, 64, .inl (fun _ => 0))), (q43, .inl (cA44, 1, .inr (.inl (fun _ => 0))))]) (w1 := []) hP hD [7] [0, 1, 2, 3, 4, 5, 6, 8, 9] rfl rfl (by decide) (by decide) hk1 hFc hP1 hD1
        have hK := (hK.sub (tys' := [(cp10, .int), (cA42, .int), (cA44, .long)]) [0, 1, 2] rfl).app hK1
        generalize H1 = H at hP hS ⊢
        have hP : va_P (dC, dI) classes [(q1, .inr (0, [.ref a04, .ref a15, .ref a26, .ref a37, .ref a48, .int 0, .int 0, .int 0, .int 0, .int 0, .int 0])), (a04, .inr (1, [.ref pw9, .int 0])), (pw9, .inl (cp10, 64, .inl (fun _ => 0))), (a26, .inr (3, [.ref er11, .int 0, .int 0, .int 0, .int 0, .int 0, .int 0, .ref eo12, .ref ew14, .int 0])), (eo12, .inr (5, [.ref ek13, .int 0])), (a37, .inr (4, [.ref nw15, .int 0])), (a48, .inr (5, [.ref ok16, .int 0])), (g220, .inl (cA42, 64, .inl (fun _ => 0))), (q43, .inl (cA44, 1, .inr (.inl (fun _ => 0))))] H := hP
        have hD : va_D A [(q1, .inr (0, [.ref a04, .ref a15, .ref a26, .ref a37, .ref a48, .int 0, .int 0, .int 0, .int 0, .int 0, .int 0])), (a04, .inr (1, [.ref pw9, .int 0])), (pw9, .inl (cp10, 64, .inl (fun _ => 0))), (a26, .inr (3, [.ref er11, .int 0, .int 0, .int 0, .int 0, .int 0, .int 0, .ref eo12, .ref ew14, .int 0])), (eo12, .inr (5, [.ref ek13, .int 0])), (a37, .inr (4, [.ref nw15, .int 0])), (a48, .inr (5, [.ref ok16, .int 0])), (g220, .inl (cA42, 64, .inl (fun _ => 0))), (q43, .inl (cA44, 1, .inr (.inl (fun _ => 0))))] := hD
        have hK : va_K (dC, dI) classes [(cp10, .int), (cA42, .int), (cA44, .long)] s := hK
        refine W.widen (k := 46) (n := 1945) (Nat.le_of_ble_eq_true rfl) (Nat.le_of_ble_eq_true rfl) ?_
        obtain rfl : r156 = 0 := hr157
        refine lv_icmp_eq (tgt := 705) hx hb d_L_law_475 rfl (fun hc158 => ?_) (fun hc158 => by first | exact absurd (rfl) hc158 | exact absurd hc158 (rfl))
        refine lv_iinc (k := 0) (v := 5) hx hb d_L_law_705 hl rfl rfl (by decide) rfl (fun ls hl => ?_)
        have hl : lv_has ls 7 [(4, .int 5), (3, .ref q43), (2, .ref q17), (1, .ref q1), (0, .ref b)] := hl
        refine lv_goto (tgt := 23) hx hb d_L_law_708 rfl ?_
        refine lv_iload hx hb d_L_law_23 (lv_at hl 0 rfl) ?_
        refine lv_aload_n hx hb d_L_law_25 rfl (lv_at hl 4 rfl) ?_
        refine va_slen hx hb hX hbl hbA hS d_L_law_26 ?_
        refine lv_iconst (v := 5) hx hb d_L_law_27 (by decide) ?_
        refine lv_isub hx hb d_L_law_28 ?_
        refine lv_icmp_gt (tgt := 711) hx hb d_L_law_29 rfl (fun _ => ?_) (fun h9 => absurd (by decide) h9)
        refine lv_iconst (v := 1) hx hb d_L_law_711 (by decide) ?_
        refine va_forget (fun q hq => by have h9 := hS.2.2 q hq; rw [hAe] at h9; exact h9) ?_
        refine W.widen (k := 600002) (n := 7302232) (Nat.le_of_ble_eq_true rfl) (Nat.le_of_ble_eq_true rfl) ?_
        exact lw_ret hx hb hr hlocks d_L_law_712
    · refine lv_tableIn (off := 441) (tgt := 480) hx hb d_L_law_39 (by rw [hs47]; decide) (by rw [hs47]; decide) (by rw [hs47]; decide) rfl ?_
      refine lv_aload_n hx hb d_L_law_480 rfl (lv_at hl 3 rfl) ?_
      refine lv_aload_n hx hb d_L_law_481 rfl (lv_at hl 4 rfl) ?_
      refine lv_iload hx hb d_L_law_482 (lv_at hl 0 rfl) ?_
      refine lv_iconst (v := 1) hx hb d_L_law_484 (by decide) ?_
      refine lv_iadd hx hb d_L_law_485 ?_
      refine va_sld hx hb hX hbl hbA hS (by unfold vp_in; decide) d_L_law_486 ?_
      refine lv_topi (fun y159 e160 => ?_)
      have hPc := hP.sub (ws' := [(q1, .inr (0, [.ref a04, .ref a15, .ref a26, .ref a37, .ref a48, .int 0, .int 0, .int 0, .int 0, .int 0, .int 0]))]) [0] rfl
      have hKc := hK.sub (tys' := []) [] rfl
      refine vp_callSi (va_runV (C := "VotedTriple") (As := [.int y159]) (rest := []) ⟨hx, hb, hml, hown, hw⟩ (c_T_skip_0 l dC dI q1 a04 a15 a26 a37 a48 0 0 0 0 0 y159) (cwV 1 hw (gdV (k_343) (k_340) (k_341) (k_342) (k_1)) rfl rfl rfl (by decide +kernel) ⟨Nat.le_of_ble_eq_true rfl, Nat.le_of_ble_eq_true rfl⟩) ⟨fun a U g mk q => ⟨q.1, q.2.1, va_K.moved (u := U) (U := U.calling g mk a) (Vm.Alike.refl U.vm) q.2.2⟩, va_recv hK hP rfl (q0 := 0) rfl, fun U hU hW => ⟨rfl, by rw [hU]; exact hPc, va_K.moved hW.alike hKc⟩⟩ rfl rfl hl.1 rfl (lv_room (Nat.le_of_ble_eq_true rfl)) d_L_law_487 ⟨Nat.le_of_ble_eq_true rfl, Nat.le_of_ble_eq_true rfl⟩).run (fun r161 hr162 => ?_)
      subst hr162
      refine lv_aload_n hx hb d_L_law_490 rfl (lv_at hl 2 rfl) ?_
      refine lv_aload_n hx hb d_L_law_491 rfl (lv_at hl 4 rfl) ?_
      refine lv_iload hx hb d_L_law_492 (lv_at hl 0 rfl) ?_
      refine lv_iconst (v := 1) hx hb d_L_law_494 (by decide) ?_
      refine lv_iadd hx hb d_L_law_495 ?_
      refine va_sld hx hb hX hbl hbA hS (by unfold vp_in; decide) d_L_law_496 ?_
      refine lv_topi (fun y163 e164 => ?_)
      obtain rfl : y159 = y163 := e160.trans e164.symm
      have hPc := hP.sub (ws' := [(q17, .inr (6, [.int 0, .int 0, .ref g220, .int 0, .int 0, .int 0, .int 0, .int 0, .ref g821, .ref g922, .ref g1023, .ref g1124, .ref g1225, .ref g1326, .ref g1427, .ref g1528, .ref g1629, .ref g1730, .ref g1831, .ref g1932, .ref g2033, .ref g2134, .ref g2235, .ref g2336, .int 0, .int 0, .int 0, .int 0, .ref g2837, .int 0, .ref g3038, .ref g3139, .ref g3240, .int 0, .int 0, .int 0, .ref g3641]))]) [7] rfl
      have hKc := hK.sub (tys' := []) [] rfl
      have hDc := hD.sub (ws' := [(q17, .inr (6, [.int 0, .int 0, .ref g220, .int 0, .int 0, .int 0, .int 0, .int 0, .ref g821, .ref g922, .ref g1023, .ref g1124, .ref g1225, .ref g1326, .ref g1427, .ref g1528, .ref g1629, .ref g1730, .ref g1831, .ref g1932, .ref g2033, .ref g2134, .ref g2235, .ref g2336, .int 0, .int 0, .int 0, .int 0, .ref g2837, .int 0, .ref g3038, .ref g3139, .ref g3240, .int 0, .int 0, .int 0, .ref g3641]))]) [7] (by decide) rfl
      have hFc := va_free (wc := [(q17, .inr (6, [.int 0, .int 0, .ref g220, .int 0, .int 0, .int 0, .int 0, .int 0, .ref g821, .ref g922, .ref g1023, .ref g1124, .ref g1225, .ref g1326, .ref g1427, .ref g1528, .ref g1629, .ref g1730, .ref g1831, .ref g1932, .ref g2033, .ref g2134, .ref g2235, .ref g2336, .int 0, .int 0, .int 0, .int 0, .ref g2837, .int 0, .ref g3038, .ref g3139, .ref g3240, .int 0, .int 0, .int 0, .ref g3641]))]) hD hS hA [7] rfl
      refine va_calli (va_runV (C := "VotedTripleModel") (As := [.int y159]) (rest := [.int 0]) ⟨hx, hb, hml, hown, hw⟩ (c_M_skip_0 l dC dI q17 g220 g821 g922 g1023 g1124 g1225 g1326 g1427 g1528 g1629 g1730 g1831 g1932 g2033 g2134 g2235 g2336 g2837 g3038 g3139 g3240 g3641 y159 H.size) (cwV 1 hw (gdV (k_974) (k_971) (k_972) (k_973) (k_8)) rfl rfl rfl (by decide +kernel) ⟨Nat.le_of_ble_eq_true rfl, Nat.le_of_ble_eq_true rfl⟩) ⟨fun a U g mk q => by obtain ⟨q0, q1, qP, qK, qD⟩ := q; exact ⟨q0, q1, qP, va_K.moved (u := U) (U := U.calling g mk a) (Vm.Alike.refl U.vm) qK, qD⟩, va_recv hK hP rfl (q0 := 7) rfl, fun U hU hW => ⟨rfl, by rw [hU], by rw [hU]; exact hPc, va_K.moved hW.alike hKc, hDc.weaken (fun _ _ _ _ => trivial)⟩⟩ rfl rfl hl.1 rfl (lv_room (Nat.le_of_ble_eq_true rfl)) d_L_law_497 ⟨Nat.le_of_ble_eq_true rfl, Nat.le_of_ble_eq_true rfl⟩) hS (fun q _ h => hFc q h) hFc (fun r165 u9 t H1 locs ht hvm hr166 hB hz1 hk1 hS => ?_)
      obtain ⟨hP1, hK1, hD1⟩ := hB
      rw [ht] at hP1
      have hK1 := va_K.moved hvm.symm hK1
      try dsimp only at hr166 hP1 hK1 hD1
      obtain ⟨hP, hD⟩ := va_join (wr := [(q1, .inr (0, [.ref a04, .ref a15, .ref a26, .ref a37, .ref a48, .int 0, .int 0, .int 0, .int 0, .int 0, .int 0])), (a04, .inr (1, [.ref pw9, .int 0])), (pw9, .inl (cp10, 64, .inl (fun _ => 0))), (a26, .inr (3, [.ref er11, .int 0, .int 0, .int 0, .int 0, .int 0, .int 0, .ref eo12, .ref ew14, .int 0])), (eo12, .inr (5, [.ref ek13, .int 0])), (a37, .inr (4, [.ref nw15, .int 0])), (a48, .inr (5, [.ref ok16, .int 0])), (g220, .inl (cA42, 64, .inl (fun _ => 0))), (q43, .inl (cA44, 1, .inr (.inl (fun _ => 0))))]) (w1 := []) hP hD [7] [0, 1, 2, 3, 4, 5, 6, 8, 9] rfl rfl (by decide) (by decide) hk1 hFc hP1 hD1
      have hK := (hK.sub (tys' := [(cp10, .int), (cA42, .int), (cA44, .long)]) [0, 1, 2] rfl).app hK1
      generalize H1 = H at hP hS ⊢
      have hP : va_P (dC, dI) classes [(q1, .inr (0, [.ref a04, .ref a15, .ref a26, .ref a37, .ref a48, .int 0, .int 0, .int 0, .int 0, .int 0, .int 0])), (a04, .inr (1, [.ref pw9, .int 0])), (pw9, .inl (cp10, 64, .inl (fun _ => 0))), (a26, .inr (3, [.ref er11, .int 0, .int 0, .int 0, .int 0, .int 0, .int 0, .ref eo12, .ref ew14, .int 0])), (eo12, .inr (5, [.ref ek13, .int 0])), (a37, .inr (4, [.ref nw15, .int 0])), (a48, .inr (5, [.ref ok16, .int 0])), (g220, .inl (cA42, 64, .inl (fun _ => 0))), (q43, .inl (cA44, 1, .inr (.inl (fun _ => 0))))] H := hP
      have hD : va_D A [(q1, .inr (0, [.ref a04, .ref a15, .ref a26, .ref a37, .ref a48, .int 0, .int 0, .int 0, .int 0, .int 0, .int 0])), (a04, .inr (1, [.ref pw9, .int 0])), (pw9, .inl (cp10, 64, .inl (fun _ => 0))), (a26, .inr (3, [.ref er11, .int 0, .int 0, .int 0, .int 0, .int 0, .int 0, .ref eo12, .ref ew14, .int 0])), (eo12, .inr (5, [.ref ek13, .int 0])), (a37, .inr (4, [.ref nw15, .int 0])), (a48, .inr (5, [.ref ok16, .int 0])), (g220, .inl (cA42, 64, .inl (fun _ => 0))), (q43, .inl (cA44, 1, .inr (.inl (fun _ => 0))))] := hD
      have hK : va_K (dC, dI) classes [(cp10, .int), (cA42, .int), (cA44, .long)] s := hK
      refine W.widen (k := 46) (n := 1945) (Nat.le_of_ble_eq_true rfl) (Nat.le_of_ble_eq_true rfl) ?_
      obtain rfl : r165 = 0 := hr166
      refine lv_icmp_eq (tgt := 705) hx hb d_L_law_500 rfl (fun hc167 => ?_) (fun hc167 => by first | exact absurd (rfl) hc167 | exact absurd hc167 (rfl))
      refine lv_iinc (k := 0) (v := 5) hx hb d_L_law_705 hl rfl rfl (by decide) rfl (fun ls hl => ?_)
      have hl : lv_has ls 7 [(4, .int 5), (3, .ref q43), (2, .ref q17), (1, .ref q1), (0, .ref b)] := hl
      refine lv_goto (tgt := 23) hx hb d_L_law_708 rfl ?_
      refine lv_iload hx hb d_L_law_23 (lv_at hl 0 rfl) ?_
      refine lv_aload_n hx hb d_L_law_25 rfl (lv_at hl 4 rfl) ?_
      refine va_slen hx hb hX hbl hbA hS d_L_law_26 ?_
      refine lv_iconst (v := 5) hx hb d_L_law_27 (by decide) ?_
      refine lv_isub hx hb d_L_law_28 ?_
      refine lv_icmp_gt (tgt := 711) hx hb d_L_law_29 rfl (fun _ => ?_) (fun h9 => absurd (by decide) h9)
      refine lv_iconst (v := 1) hx hb d_L_law_711 (by decide) ?_
      refine va_forget (fun q hq => by have h9 := hS.2.2 q hq; rw [hAe] at h9; exact h9) ?_
      refine W.widen (k := 600002) (n := 7302232) (Nat.le_of_ble_eq_true rfl) (Nat.le_of_ble_eq_true rfl) ?_
      exact lw_ret hx hb hr hlocks d_L_law_712
    · refine lv_tableIn (off := 466) (tgt := 505) hx hb d_L_law_39 (by rw [hs47]; decide) (by rw [hs47]; decide) (by rw [hs47]; decide) rfl ?_
      refine lv_aload_n hx hb d_L_law_505 rfl (lv_at hl 3 rfl) ?_
      refine lv_aload_n hx hb d_L_law_506 rfl (lv_at hl 4 rfl) ?_
      refine lv_iload hx hb d_L_law_507 (lv_at hl 0 rfl) ?_
      refine lv_iconst (v := 1) hx hb d_L_law_509 (by decide) ?_
      refine lv_iadd hx hb d_L_law_510 ?_
      refine va_sld hx hb hX hbl hbA hS (by unfold vp_in; decide) d_L_law_511 ?_
      refine lv_topi (fun y168 e169 => ?_)
      have hPc := hP.sub (ws' := [(q1, .inr (0, [.ref a04, .ref a15, .ref a26, .ref a37, .ref a48, .int 0, .int 0, .int 0, .int 0, .int 0, .int 0]))]) [0] rfl
      have hKc := hK.sub (tys' := []) [] rfl
      refine vp_callSi (va_runV (C := "VotedTriple") (As := [.int y168]) (rest := []) ⟨hx, hb, hml, hown, hw⟩ (c_T_swap_0 l dC dI q1 a04 a15 a26 a37 a48 0 0 0 0 0 y168) (cwV 1 hw (gdV (k_347) (k_344) (k_345) (k_346) (k_1)) rfl rfl rfl (by decide +kernel) ⟨Nat.le_of_ble_eq_true rfl, Nat.le_of_ble_eq_true rfl⟩) ⟨fun a U g mk q => ⟨q.1, q.2.1, va_K.moved (u := U) (U := U.calling g mk a) (Vm.Alike.refl U.vm) q.2.2⟩, va_recv hK hP rfl (q0 := 0) rfl, fun U hU hW => ⟨rfl, by rw [hU]; exact hPc, va_K.moved hW.alike hKc⟩⟩ rfl rfl hl.1 rfl (lv_room (Nat.le_of_ble_eq_true rfl)) d_L_law_512 ⟨Nat.le_of_ble_eq_true rfl, Nat.le_of_ble_eq_true rfl⟩).run (fun r170 hr171 => ?_)
      subst hr171
      refine lv_aload_n hx hb d_L_law_515 rfl (lv_at hl 2 rfl) ?_
      refine lv_aload_n hx hb d_L_law_516 rfl (lv_at hl 4 rfl) ?_
      refine lv_iload hx hb d_L_law_517 (lv_at hl 0 rfl) ?_
      refine lv_iconst (v := 1) hx hb d_L_law_519 (by decide) ?_
      refine lv_iadd hx hb d_L_law_520 ?_
      refine va_sld hx hb hX hbl hbA hS (by unfold vp_in; decide) d_L_law_521 ?_
      refine lv_topi (fun y172 e173 => ?_)
      obtain rfl : y168 = y172 := e169.trans e173.symm
      have hPc := hP.sub (ws' := [(q17, .inr (6, [.int 0, .int 0, .ref g220, .int 0, .int 0, .int 0, .int 0, .int 0, .ref g821, .ref g922, .ref g1023, .ref g1124, .ref g1225, .ref g1326, .ref g1427, .ref g1528, .ref g1629, .ref g1730, .ref g1831, .ref g1932, .ref g2033, .ref g2134, .ref g2235, .ref g2336, .int 0, .int 0, .int 0, .int 0, .ref g2837, .int 0, .ref g3038, .ref g3139, .ref g3240, .int 0, .int 0, .int 0, .ref g3641]))]) [7] rfl
      have hKc := hK.sub (tys' := []) [] rfl
      have hDc := hD.sub (ws' := [(q17, .inr (6, [.int 0, .int 0, .ref g220, .int 0, .int 0, .int 0, .int 0, .int 0, .ref g821, .ref g922, .ref g1023, .ref g1124, .ref g1225, .ref g1326, .ref g1427, .ref g1528, .ref g1629, .ref g1730, .ref g1831, .ref g1932, .ref g2033, .ref g2134, .ref g2235, .ref g2336, .int 0, .int 0, .int 0, .int 0, .ref g2837, .int 0, .ref g3038, .ref g3139, .ref g3240, .int 0, .int 0, .int 0, .ref g3641]))]) [7] (by decide) rfl
      have hFc := va_free (wc := [(q17, .inr (6, [.int 0, .int 0, .ref g220, .int 0, .int 0, .int 0, .int 0, .int 0, .ref g821, .ref g922, .ref g1023, .ref g1124, .ref g1225, .ref g1326, .ref g1427, .ref g1528, .ref g1629, .ref g1730, .ref g1831, .ref g1932, .ref g2033, .ref g2134, .ref g2235, .ref g2336, .int 0, .int 0, .int 0, .int 0, .ref g2837, .int 0, .ref g3038, .ref g3139, .ref g3240, .int 0, .int 0, .int 0, .ref g3641]))]) hD hS hA [7] rfl
      refine va_calli (va_runV (C := "VotedTripleModel") (As := [.int y168]) (rest := [.int 0]) ⟨hx, hb, hml, hown, hw⟩ (c_M_swap_0 l dC dI q17 g220 g821 g922 g1023 g1124 g1225 g1326 g1427 g1528 g1629 g1730 g1831 g1932 g2033 g2134 g2235 g2336 g2837 g3038 g3139 g3240 g3641 y168 H.size) (cwV 1 hw (gdV (k_978) (k_975) (k_976) (k_977) (k_8)) rfl rfl rfl (by decide +kernel) ⟨Nat.le_of_ble_eq_true rfl, Nat.le_of_ble_eq_true rfl⟩) ⟨fun a U g mk q => by obtain ⟨q0, q1, qP, qK, qD⟩ := q; exact ⟨q0, q1, qP, va_K.moved (u := U) (U := U.calling g mk a) (Vm.Alike.refl U.vm) qK, qD⟩, va_recv hK hP rfl (q0 := 7) rfl, fun U hU hW => ⟨rfl, by rw [hU], by rw [hU]; exact hPc, va_K.moved hW.alike hKc, hDc.weaken (fun _ _ _ _ => trivial)⟩⟩ rfl rfl hl.1 rfl (lv_room (Nat.le_of_ble_eq_true rfl)) d_L_law_522 ⟨Nat.le_of_ble_eq_true rfl, Nat.le_of_ble_eq_true rfl⟩) hS (fun q _ h => hFc q h) hFc (fun r174 u9 t H1 locs ht hvm hr175 hB hz1 hk1 hS => ?_)
      obtain ⟨hP1, hK1, hD1⟩ := hB
      rw [ht] at hP1
      have hK1 := va_K.moved hvm.symm hK1
      try dsimp only at hr175 hP1 hK1 hD1
      obtain ⟨hP, hD⟩ := va_join (wr := [(q1, .inr (0, [.ref a04, .ref a15, .ref a26, .ref a37, .ref a48, .int 0, .int 0, .int 0, .int 0, .int 0, .int 0])), (a04, .inr (1, [.ref pw9, .int 0])), (pw9, .inl (cp10, 64, .inl (fun _ => 0))), (a26, .inr (3, [.ref er11, .int 0, .int 0, .int 0, .int 0, .int 0, .int 0, .ref eo12, .ref ew14, .int 0])), (eo12, .inr (5, [.ref ek13, .int 0])), (a37, .inr (4, [.ref nw15, .int 0])), (a48, .inr (5, [.ref ok16, .int 0])), (g220, .inl (cA42, 64, .inl (fun _ => 0))), (q43, .inl (cA44, 1, .inr (.inl (fun _ => 0))))]) (w1 := []) hP hD [7] [0, 1, 2, 3, 4, 5, 6, 8, 9] rfl rfl (by decide) (by decide) hk1 hFc hP1 hD1
      have hK := (hK.sub (tys' := [(cp10, .int), (cA42, .int), (cA44, .long)]) [0, 1, 2] rfl).app hK1
      generalize H1 = H at hP hS ⊢
      have hP : va_P (dC, dI) classes [(q1, .inr (0, [.ref a04, .ref a15, .ref a26, .ref a37, .ref a48, .int 0, .int 0, .int 0, .int 0, .int 0, .int 0])), (a04, .inr (1, [.ref pw9, .int 0])), (pw9, .inl (cp10, 64, .inl (fun _ => 0))), (a26, .inr (3, [.ref er11, .int 0, .int 0, .int 0, .int 0, .int 0, .int 0, .ref eo12, .ref ew14, .int 0])), (eo12, .inr (5, [.ref ek13, .int 0])), (a37, .inr (4, [.ref nw15, .int 0])), (a48, .inr (5, [.ref ok16, .int 0])), (g220, .inl (cA42, 64, .inl (fun _ => 0))), (q43, .inl (cA44, 1, .inr (.inl (fun _ => 0))))] H := hP
      have hD : va_D A [(q1, .inr (0, [.ref a04, .ref a15, .ref a26, .ref a37, .ref a48, .int 0, .int 0, .int 0, .int 0, .int 0, .int 0])), (a04, .inr (1, [.ref pw9, .int 0])), (pw9, .inl (cp10, 64, .inl (fun _ => 0))), (a26, .inr (3, [.ref er11, .int 0, .int 0, .int 0, .int 0, .int 0, .int 0, .ref eo12, .ref ew14, .int 0])), (eo12, .inr (5, [.ref ek13, .int 0])), (a37, .inr (4, [.ref nw15, .int 0])), (a48, .inr (5, [.ref ok16, .int 0])), (g220, .inl (cA42, 64, .inl (fun _ => 0))), (q43, .inl (cA44, 1, .inr (.inl (fun _ => 0))))] := hD
      have hK : va_K (dC, dI) classes [(cp10, .int), (cA42, .int), (cA44, .long)] s := hK
      refine W.widen (k := 46) (n := 1945) (Nat.le_of_ble_eq_true rfl) (Nat.le_of_ble_eq_true rfl) ?_
      obtain rfl : r174 = 0 := hr175
      refine lv_icmp_eq (tgt := 705) hx hb d_L_law_525 rfl (fun hc176 => ?_) (fun hc176 => by first | exact absurd (rfl) hc176 | exact absurd hc176 (rfl))
      refine lv_iinc (k := 0) (v := 5) hx hb d_L_law_705 hl rfl rfl (by decide) rfl (fun ls hl => ?_)
      have hl : lv_has ls 7 [(4, .int 5), (3, .ref q43), (2, .ref q17), (1, .ref q1), (0, .ref b)] := hl
      refine lv_goto (tgt := 23) hx hb d_L_law_708 rfl ?_
      refine lv_iload hx hb d_L_law_23 (lv_at hl 0 rfl) ?_
      refine lv_aload_n hx hb d_L_law_25 rfl (lv_at hl 4 rfl) ?_
      refine va_slen hx hb hX hbl hbA hS d_L_law_26 ?_
      refine lv_iconst (v := 5) hx hb d_L_law_27 (by decide) ?_
      refine lv_isub hx hb d_L_law_28 ?_
      refine lv_icmp_gt (tgt := 711) hx hb d_L_law_29 rfl (fun _ => ?_) (fun h9 => absurd (by decide) h9)
      refine lv_iconst (v := 1) hx hb d_L_law_711 (by decide) ?_
      refine va_forget (fun q hq => by have h9 := hS.2.2 q hq; rw [hAe] at h9; exact h9) ?_
      refine W.widen (k := 600002) (n := 7302232) (Nat.le_of_ble_eq_true rfl) (Nat.le_of_ble_eq_true rfl) ?_
      exact lw_ret hx hb hr hlocks d_L_law_712
    · refine lv_tableIn (off := 491) (tgt := 530) hx hb d_L_law_39 (by rw [hs47]; decide) (by rw [hs47]; decide) (by rw [hs47]; decide) rfl ?_
      refine lv_aload_n hx hb d_L_law_530 rfl (lv_at hl 3 rfl) ?_
      refine lv_aload_n hx hb d_L_law_531 rfl (lv_at hl 4 rfl) ?_
      refine lv_iload hx hb d_L_law_532 (lv_at hl 0 rfl) ?_
      refine lv_iconst (v := 1) hx hb d_L_law_534 (by decide) ?_
      refine lv_iadd hx hb d_L_law_535 ?_
      refine va_sld hx hb hX hbl hbA hS (by unfold vp_in; decide) d_L_law_536 ?_
      refine lv_topi (fun y177 e178 => ?_)
      refine lv_if_eq (tgt := 544) hx hb d_L_law_537 rfl (fun hc179 => ?_) (fun hc179 => ?_)
      · --  y177 = 0
        refine lv_iconst (v := 0) hx hb d_L_law_544 (by decide) ?_
        have hPc := hP.sub (ws' := [(q1, .inr (0, [.ref a04, .ref a15, .ref a26, .ref a37, .ref a48, .int 0, .int 0, .int 0, .int 0, .int 0, .int 0]))]) [0] rfl
        have hKc := hK.sub (tys' := []) [] rfl
        have hDc := hD.sub (ws' := [(q1, .inr (0, [.ref a04, .ref a15, .ref a26, .ref a37, .ref a48, .int 0, .int 0, .int 0, .int 0, .int 0, .int 0]))]) [0] (by decide) rfl
        have hFc := va_free (wc := [(q1, .inr (0, [.ref a04, .ref a15, .ref a26, .ref a37, .ref a48, .int 0, .int 0, .int 0, .int 0, .int 0, .int 0]))]) hD hS hA [0] rfl
        refine va_callv (va_runV (C := "VotedTriple") (As := [.int 0]) (rest := []) ⟨hx, hb, hml, hown, hw⟩ (c_T_allow l dC dI q1 a04 a15 a26 a37 a48 0 0 0 0 0 0 (⟨rfl, rfl⟩) H.size) (cwV 1 hw (gdV (k_359) (k_356) (k_357) (k_358) (k_1)) rfl rfl rfl (by decide +kernel) ⟨Nat.le_of_ble_eq_true rfl, Nat.le_of_ble_eq_true rfl⟩) ⟨fun a U g mk q => by obtain ⟨q0, q1, qP, qK, qD⟩ := q; exact ⟨q0, q1, qP, va_K.moved (u := U) (U := U.calling g mk a) (Vm.Alike.refl U.vm) qK, qD⟩, va_recv hK hP rfl (q0 := 0) rfl, fun U hU hW => ⟨rfl, by rw [hU], by rw [hU]; exact hPc, va_K.moved hW.alike hKc, hDc.weaken (fun _ _ _ _ => trivial)⟩⟩ rfl rfl hl.1 rfl (lv_room (Nat.le_of_ble_eq_true rfl)) d_L_law_545 ⟨Nat.le_of_ble_eq_true rfl, Nat.le_of_ble_eq_true rfl⟩) hS (fun q _ h => hFc q h) hFc (fun u9 t H1 locs ht hvm hr181 hB hz1 hk1 hS => ?_)
        obtain ⟨hP1, hK1, hD1⟩ := hB
        rw [ht] at hP1
        have hK1 := va_K.moved hvm.symm hK1
        try dsimp only at hr181 hP1 hK1 hD1
        obtain ⟨hP, hD⟩ := va_join (wr := [(a04, .inr (1, [.ref pw9, .int 0])), (pw9, .inl (cp10, 64, .inl (fun _ => 0))), (a26, .inr (3, [.ref er11, .int 0, .int 0, .int 0, .int 0, .int 0, .int 0, .ref eo12, .ref ew14, .int 0])), (eo12, .inr (5, [.ref ek13, .int 0])), (a37, .inr (4, [.ref nw15, .int 0])), (a48, .inr (5, [.ref ok16, .int 0])), (q17, .inr (6, [.int 0, .int 0, .ref g220, .int 0, .int 0, .int 0, .int 0, .int 0, .ref g821, .ref g922, .ref g1023, .ref g1124, .ref g1225, .ref g1326, .ref g1427, .ref g1528, .ref g1629, .ref g1730, .ref g1831, .ref g1932, .ref g2033, .ref g2134, .ref g2235, .ref g2336, .int 0, .int 0, .int 0, .int 0, .ref g2837, .int 0, .ref g3038, .ref g3139, .ref g3240, .int 0, .int 0, .int 0, .ref g3641])), (g220, .inl (cA42, 64, .inl (fun _ => 0))), (q43, .inl (cA44, 1, .inr (.inl (fun _ => 0))))]) (w1 := []) hP hD [0] [1, 2, 3, 4, 5, 6, 7, 8, 9] rfl rfl (by decide) (by decide) hk1 hFc hP1 hD1
        have hK := (hK.sub (tys' := [(cp10, .int), (cA42, .int), (cA44, .long)]) [0, 1, 2] rfl).app hK1
        generalize H1 = H at hP hS ⊢
        have hP : va_P (dC, dI) classes [(a04, .inr (1, [.ref pw9, .int 0])), (pw9, .inl (cp10, 64, .inl (fun _ => 0))), (a26, .inr (3, [.ref er11, .int 0, .int 0, .int 0, .int 0, .int 0, .int 0, .ref eo12, .ref ew14, .int 0])), (eo12, .inr (5, [.ref ek13, .int 0])), (a37, .inr (4, [.ref nw15, .int 0])), (a48, .inr (5, [.ref ok16, .int 0])), (q17, .inr (6, [.int 0, .int 0, .ref g220, .int 0, .int 0, .int 0, .int 0, .int 0, .ref g821, .ref g922, .ref g1023, .ref g1124, .ref g1225, .ref g1326, .ref g1427, .ref g1528, .ref g1629, .ref g1730, .ref g1831, .ref g1932, .ref g2033, .ref g2134, .ref g2235, .ref g2336, .int 0, .int 0, .int 0, .int 0, .ref g2837, .int 0, .ref g3038, .ref g3139, .ref g3240, .int 0, .int 0, .int 0, .ref g3641])), (g220, .inl (cA42, 64, .inl (fun _ => 0))), (q43, .inl (cA44, 1, .inr (.inl (fun _ => 0))))] H := hP
        have hD : va_D A [(a04, .inr (1, [.ref pw9, .int 0])), (pw9, .inl (cp10, 64, .inl (fun _ => 0))), (a26, .inr (3, [.ref er11, .int 0, .int 0, .int 0, .int 0, .int 0, .int 0, .ref eo12, .ref ew14, .int 0])), (eo12, .inr (5, [.ref ek13, .int 0])), (a37, .inr (4, [.ref nw15, .int 0])), (a48, .inr (5, [.ref ok16, .int 0])), (q17, .inr (6, [.int 0, .int 0, .ref g220, .int 0, .int 0, .int 0, .int 0, .int 0, .ref g821, .ref g922, .ref g1023, .ref g1124, .ref g1225, .ref g1326, .ref g1427, .ref g1528, .ref g1629, .ref g1730, .ref g1831, .ref g1932, .ref g2033, .ref g2134, .ref g2235, .ref g2336, .int 0, .int 0, .int 0, .int 0, .ref g2837, .int 0, .ref g3038, .ref g3139, .ref g3240, .int 0, .int 0, .int 0, .ref g3641])), (g220, .inl (cA42, 64, .inl (fun _ => 0))), (q43, .inl (cA44, 1, .inr (.inl (fun _ => 0))))] := hD
        have hK : va_K (dC, dI) classes [(cp10, .int), (cA42, .int), (cA44, .long)] s := hK
        refine W.widen (k := 46) (n := 1945) (Nat.le_of_ble_eq_true rfl) (Nat.le_of_ble_eq_true rfl) ?_
        refine lv_aload_n hx hb d_L_law_548 rfl (lv_at hl 2 rfl) ?_
        refine lv_aload_n hx hb d_L_law_549 rfl (lv_at hl 4 rfl) ?_
        refine lv_iload hx hb d_L_law_550 (lv_at hl 0 rfl) ?_
        refine lv_iconst (v := 1) hx hb d_L_law_552 (by decide) ?_
        refine lv_iadd hx hb d_L_law_553 ?_
        refine va_sld hx hb hX hbl hbA hS (by unfold vp_in; decide) d_L_law_554 ?_
        refine lv_topi (fun y182 e183 => ?_)
        obtain rfl : y177 = y182 := e178.trans e183.symm
        refine lv_if_eq (tgt := 562) hx hb d_L_law_555 rfl (fun hc184 => ?_) (fun hc184 => by first | exact absurd (hc179) hc184 | exact absurd hc184 (hc179))
        refine lv_iconst (v := 0) hx hb d_L_law_562 (by decide) ?_
        have hPc := hP.sub (ws' := [(q17, .inr (6, [.int 0, .int 0, .ref g220, .int 0, .int 0, .int 0, .int 0, .int 0, .ref g821, .ref g922, .ref g1023, .ref g1124, .ref g1225, .ref g1326, .ref g1427, .ref g1528, .ref g1629, .ref g1730, .ref g1831, .ref g1932, .ref g2033, .ref g2134, .ref g2235, .ref g2336, .int 0, .int 0, .int 0, .int 0, .ref g2837, .int 0, .ref g3038, .ref g3139, .ref g3240, .int 0, .int 0, .int 0, .ref g3641]))]) [6] rfl
        have hKc := hK.sub (tys' := []) [] rfl
        have hDc := hD.sub (ws' := [(q17, .inr (6, [.int 0, .int 0, .ref g220, .int 0, .int 0, .int 0, .int 0, .int 0, .ref g821, .ref g922, .ref g1023, .ref g1124, .ref g1225, .ref g1326, .ref g1427, .ref g1528, .ref g1629, .ref g1730, .ref g1831, .ref g1932, .ref g2033, .ref g2134, .ref g2235, .ref g2336, .int 0, .int 0, .int 0, .int 0, .ref g2837, .int 0, .ref g3038, .ref g3139, .ref g3240, .int 0, .int 0, .int 0, .ref g3641]))]) [6] (by decide) rfl
        have hFc := va_free (wc := [(q17, .inr (6, [.int 0, .int 0, .ref g220, .int 0, .int 0, .int 0, .int 0, .int 0, .ref g821, .ref g922, .ref g1023, .ref g1124, .ref g1225, .ref g1326, .ref g1427, .ref g1528, .ref g1629, .ref g1730, .ref g1831, .ref g1932, .ref g2033, .ref g2134, .ref g2235, .ref g2336, .int 0, .int 0, .int 0, .int 0, .ref g2837, .int 0, .ref g3038, .ref g3139, .ref g3240, .int 0, .int 0, .int 0, .ref g3641]))]) hD hS hA [6] rfl
        refine va_callv (va_runV (C := "VotedTripleModel") (As := [.int 0]) (rest := []) ⟨hx, hb, hml, hown, hw⟩ (c_M_allow_0 l dC dI q17 g220 g821 g922 g1023 g1124 g1225 g1326 g1427 g1528 g1629 g1730 g1831 g1932 g2033 g2134 g2235 g2336 g2837 g3038 g3139 g3240 g3641 0 (⟨rfl, rfl⟩) H.size) (cwV 1 hw (gdV (k_982) (k_979) (k_980) (k_981) (k_8)) rfl rfl rfl (by decide +kernel) ⟨Nat.le_of_ble_eq_true rfl, Nat.le_of_ble_eq_true rfl⟩) ⟨fun a U g mk q => by obtain ⟨q0, q1, qP, qK, qD⟩ := q; exact ⟨q0, q1, qP, va_K.moved (u := U) (U := U.calling g mk a) (Vm.Alike.refl U.vm) qK, qD⟩, va_recv hK hP rfl (q0 := 6) rfl, fun U hU hW => ⟨rfl, by rw [hU], by rw [hU]; exact hPc, va_K.moved hW.alike hKc, hDc.weaken (fun _ _ _ _ => trivial)⟩⟩ rfl rfl hl.1 rfl (lv_room (Nat.le_of_ble_eq_true rfl)) d_L_law_563 ⟨Nat.le_of_ble_eq_true rfl, Nat.le_of_ble_eq_true rfl⟩) hS (fun q _ h => hFc q h) hFc (fun u9 t H1 locs ht hvm hr186 hB hz1 hk1 hS => ?_)
        obtain ⟨hP1, hK1, hD1⟩ := hB
        rw [ht] at hP1
        have hK1 := va_K.moved hvm.symm hK1
        try dsimp only at hr186 hP1 hK1 hD1
        obtain ⟨hP, hD⟩ := va_join (wr := [(a04, .inr (1, [.ref pw9, .int 0])), (pw9, .inl (cp10, 64, .inl (fun _ => 0))), (a26, .inr (3, [.ref er11, .int 0, .int 0, .int 0, .int 0, .int 0, .int 0, .ref eo12, .ref ew14, .int 0])), (eo12, .inr (5, [.ref ek13, .int 0])), (a37, .inr (4, [.ref nw15, .int 0])), (a48, .inr (5, [.ref ok16, .int 0])), (g220, .inl (cA42, 64, .inl (fun _ => 0))), (q43, .inl (cA44, 1, .inr (.inl (fun _ => 0))))]) (w1 := []) hP hD [6] [0, 1, 2, 3, 4, 5, 7, 8] rfl rfl (by decide) (by decide) hk1 hFc hP1 hD1
        have hK := (hK.sub (tys' := [(cp10, .int), (cA42, .int), (cA44, .long)]) [0, 1, 2] rfl).app hK1
        generalize H1 = H at hP hS ⊢
        have hP : va_P (dC, dI) classes [(a04, .inr (1, [.ref pw9, .int 0])), (pw9, .inl (cp10, 64, .inl (fun _ => 0))), (a26, .inr (3, [.ref er11, .int 0, .int 0, .int 0, .int 0, .int 0, .int 0, .ref eo12, .ref ew14, .int 0])), (eo12, .inr (5, [.ref ek13, .int 0])), (a37, .inr (4, [.ref nw15, .int 0])), (a48, .inr (5, [.ref ok16, .int 0])), (g220, .inl (cA42, 64, .inl (fun _ => 0))), (q43, .inl (cA44, 1, .inr (.inl (fun _ => 0))))] H := hP
        have hD : va_D A [(a04, .inr (1, [.ref pw9, .int 0])), (pw9, .inl (cp10, 64, .inl (fun _ => 0))), (a26, .inr (3, [.ref er11, .int 0, .int 0, .int 0, .int 0, .int 0, .int 0, .ref eo12, .ref ew14, .int 0])), (eo12, .inr (5, [.ref ek13, .int 0])), (a37, .inr (4, [.ref nw15, .int 0])), (a48, .inr (5, [.ref ok16, .int 0])), (g220, .inl (cA42, 64, .inl (fun _ => 0))), (q43, .inl (cA44, 1, .inr (.inl (fun _ => 0))))] := hD
        have hK : va_K (dC, dI) classes [(cp10, .int), (cA42, .int), (cA44, .long)] s := hK
        refine W.widen (k := 46) (n := 1945) (Nat.le_of_ble_eq_true rfl) (Nat.le_of_ble_eq_true rfl) ?_
        refine lv_goto (tgt := 705) hx hb d_L_law_566 rfl ?_
        refine lv_iinc (k := 0) (v := 5) hx hb d_L_law_705 hl rfl rfl (by decide) rfl (fun ls hl => ?_)
        have hl : lv_has ls 7 [(4, .int 5), (3, .ref q43), (2, .ref q17), (1, .ref q1), (0, .ref b)] := hl
        refine lv_goto (tgt := 23) hx hb d_L_law_708 rfl ?_
        refine lv_iload hx hb d_L_law_23 (lv_at hl 0 rfl) ?_
        refine lv_aload_n hx hb d_L_law_25 rfl (lv_at hl 4 rfl) ?_
        refine va_slen hx hb hX hbl hbA hS d_L_law_26 ?_
        refine lv_iconst (v := 5) hx hb d_L_law_27 (by decide) ?_
        refine lv_isub hx hb d_L_law_28 ?_
        refine lv_icmp_gt (tgt := 711) hx hb d_L_law_29 rfl (fun _ => ?_) (fun h9 => absurd (by decide) h9)
        refine lv_iconst (v := 1) hx hb d_L_law_711 (by decide) ?_
        refine va_forget (fun q hq => by have h9 := hS.2.2 q hq; rw [hAe] at h9; exact h9) ?_
        refine W.widen (k := 600002) (n := 7302232) (Nat.le_of_ble_eq_true rfl) (Nat.le_of_ble_eq_true rfl) ?_
        exact lw_ret hx hb hr hlocks d_L_law_712
      · --  ¬ y177 = 0
        refine lv_iconst (v := 1) hx hb d_L_law_540 (by decide) ?_
        refine lv_goto (tgt := 545) hx hb d_L_law_541 rfl ?_
        have hPc := hP.sub (ws' := [(q1, .inr (0, [.ref a04, .ref a15, .ref a26, .ref a37, .ref a48, .int 0, .int 0, .int 0, .int 0, .int 0, .int 0]))]) [0] rfl
        have hKc := hK.sub (tys' := []) [] rfl
        have hDc := hD.sub (ws' := [(q1, .inr (0, [.ref a04, .ref a15, .ref a26, .ref a37, .ref a48, .int 0, .int 0, .int 0, .int 0, .int 0, .int 0]))]) [0] (by decide) rfl
        have hFc := va_free (wc := [(q1, .inr (0, [.ref a04, .ref a15, .ref a26, .ref a37, .ref a48, .int 0, .int 0, .int 0, .int 0, .int 0, .int 0]))]) hD hS hA [0] rfl
        refine va_callv (va_runV (C := "VotedTriple") (As := [.int 1]) (rest := []) ⟨hx, hb, hml, hown, hw⟩ (c_T_allow l dC dI q1 a04 a15 a26 a37 a48 0 0 0 0 0 1 (⟨rfl, rfl⟩) H.size) (cwV 1 hw (gdV (k_359) (k_356) (k_357) (k_358) (k_1)) rfl rfl rfl (by decide +kernel) ⟨Nat.le_of_ble_eq_true rfl, Nat.le_of_ble_eq_true rfl⟩) ⟨fun a U g mk q => by obtain ⟨q0, q1, qP, qK, qD⟩ := q; exact ⟨q0, q1, qP, va_K.moved (u := U) (U := U.calling g mk a) (Vm.Alike.refl U.vm) qK, qD⟩, va_recv hK hP rfl (q0 := 0) rfl, fun U hU hW => ⟨rfl, by rw [hU], by rw [hU]; exact hPc, va_K.moved hW.alike hKc, hDc.weaken (fun _ _ _ _ => trivial)⟩⟩ rfl rfl hl.1 rfl (lv_room (Nat.le_of_ble_eq_true rfl)) d_L_law_545 ⟨Nat.le_of_ble_eq_true rfl, Nat.le_of_ble_eq_true rfl⟩) hS (fun q _ h => hFc q h) hFc (fun u9 t H1 locs ht hvm hr188 hB hz1 hk1 hS => ?_)
        obtain ⟨hP1, hK1, hD1⟩ := hB
        rw [ht] at hP1
        have hK1 := va_K.moved hvm.symm hK1
        try dsimp only at hr188 hP1 hK1 hD1
        obtain ⟨hP, hD⟩ := va_join (wr := [(a04, .inr (1, [.ref pw9, .int 0])), (pw9, .inl (cp10, 64, .inl (fun _ => 0))), (a26, .inr (3, [.ref er11, .int 0, .int 0, .int 0, .int 0, .int 0, .int 0, .ref eo12, .ref ew14, .int 0])), (eo12, .inr (5, [.ref ek13, .int 0])), (a37, .inr (4, [.ref nw15, .int 0])), (a48, .inr (5, [.ref ok16, .int 0])), (q17, .inr (6, [.int 0, .int 0, .ref g220, .int 0, .int 0, .int 0, .int 0, .int 0, .ref g821, .ref g922, .ref g1023, .ref g1124, .ref g1225, .ref g1326, .ref g1427, .ref g1528, .ref g1629, .ref g1730, .ref g1831, .ref g1932, .ref g2033, .ref g2134, .ref g2235, .ref g2336, .int 0, .int 0, .int 0, .int 0, .ref g2837, .int 0, .ref g3038, .ref g3139, .ref g3240, .int 0, .int 0, .int 0, .ref g3641])), (g220, .inl (cA42, 64, .inl (fun _ => 0))), (q43, .inl (cA44, 1, .inr (.inl (fun _ => 0))))]) (w1 := []) hP hD [0] [1, 2, 3, 4, 5, 6, 7, 8, 9] rfl rfl (by decide) (by decide) hk1 hFc hP1 hD1
        have hK := (hK.sub (tys' := [(cp10, .int), (cA42, .int), (cA44, .long)]) [0, 1, 2] rfl).app hK1
        generalize H1 = H at hP hS ⊢
        have hP : va_P (dC, dI) classes [(a04, .inr (1, [.ref pw9, .int 0])), (pw9, .inl (cp10, 64, .inl (fun _ => 0))), (a26, .inr (3, [.ref er11, .int 0, .int 0, .int 0, .int 0, .int 0, .int 0, .ref eo12, .ref ew14, .int 0])), (eo12, .inr (5, [.ref ek13, .int 0])), (a37, .inr (4, [.ref nw15, .int 0])), (a48, .inr (5, [.ref ok16, .int 0])), (q17, .inr (6, [.int 0, .int 0, .ref g220, .int 0, .int 0, .int 0, .int 0, .int 0, .ref g821, .ref g922, .ref g1023, .ref g1124, .ref g1225, .ref g1326, .ref g1427, .ref g1528, .ref g1629, .ref g1730, .ref g1831, .ref g1932, .ref g2033, .ref g2134, .ref g2235, .ref g2336, .int 0, .int 0, .int 0, .int 0, .ref g2837, .int 0, .ref g3038, .ref g3139, .ref g3240, .int 0, .int 0, .int 0, .ref g3641])), (g220, .inl (cA42, 64, .inl (fun _ => 0))), (q43, .inl (cA44, 1, .inr (.inl (fun _ => 0))))] H := hP
        have hD : va_D A [(a04, .inr (1, [.ref pw9, .int 0])), (pw9, .inl (cp10, 64, .inl (fun _ => 0))), (a26, .inr (3, [.ref er11, .int 0, .int 0, .int 0, .int 0, .int 0, .int 0, .ref eo12, .ref ew14, .int 0])), (eo12, .inr (5, [.ref ek13, .int 0])), (a37, .inr (4, [.ref nw15, .int 0])), (a48, .inr (5, [.ref ok16, .int 0])), (q17, .inr (6, [.int 0, .int 0, .ref g220, .int 0, .int 0, .int 0, .int 0, .int 0, .ref g821, .ref g922, .ref g1023, .ref g1124, .ref g1225, .ref g1326, .ref g1427, .ref g1528, .ref g1629, .ref g1730, .ref g1831, .ref g1932, .ref g2033, .ref g2134, .ref g2235, .ref g2336, .int 0, .int 0, .int 0, .int 0, .ref g2837, .int 0, .ref g3038, .ref g3139, .ref g3240, .int 0, .int 0, .int 0, .ref g3641])), (g220, .inl (cA42, 64, .inl (fun _ => 0))), (q43, .inl (cA44, 1, .inr (.inl (fun _ => 0))))] := hD
        have hK : va_K (dC, dI) classes [(cp10, .int), (cA42, .int), (cA44, .long)] s := hK
        refine W.widen (k := 46) (n := 1945) (Nat.le_of_ble_eq_true rfl) (Nat.le_of_ble_eq_true rfl) ?_
        refine lv_aload_n hx hb d_L_law_548 rfl (lv_at hl 2 rfl) ?_
        refine lv_aload_n hx hb d_L_law_549 rfl (lv_at hl 4 rfl) ?_
        refine lv_iload hx hb d_L_law_550 (lv_at hl 0 rfl) ?_
        refine lv_iconst (v := 1) hx hb d_L_law_552 (by decide) ?_
        refine lv_iadd hx hb d_L_law_553 ?_
        refine va_sld hx hb hX hbl hbA hS (by unfold vp_in; decide) d_L_law_554 ?_
        refine lv_topi (fun y189 e190 => ?_)
        obtain rfl : y177 = y189 := e178.trans e190.symm
        refine lv_if_eq (tgt := 562) hx hb d_L_law_555 rfl (fun hc191 => by first | exact absurd hc191 (hc179) | exact absurd (hc179) hc191) (fun hc191 => ?_)
        refine lv_iconst (v := 1) hx hb d_L_law_558 (by decide) ?_
        refine lv_goto (tgt := 563) hx hb d_L_law_559 rfl ?_
        have hPc := hP.sub (ws' := [(q17, .inr (6, [.int 0, .int 0, .ref g220, .int 0, .int 0, .int 0, .int 0, .int 0, .ref g821, .ref g922, .ref g1023, .ref g1124, .ref g1225, .ref g1326, .ref g1427, .ref g1528, .ref g1629, .ref g1730, .ref g1831, .ref g1932, .ref g2033, .ref g2134, .ref g2235, .ref g2336, .int 0, .int 0, .int 0, .int 0, .ref g2837, .int 0, .ref g3038, .ref g3139, .ref g3240, .int 0, .int 0, .int 0, .ref g3641]))]) [6] rfl
        have hKc := hK.sub (tys' := []) [] rfl
        have hDc := hD.sub (ws' := [(q17, .inr (6, [.int 0, .int 0, .ref g220, .int 0, .int 0, .int 0, .int 0, .int 0, .ref g821, .ref g922, .ref g1023, .ref g1124, .ref g1225, .ref g1326, .ref g1427, .ref g1528, .ref g1629, .ref g1730, .ref g1831, .ref g1932, .ref g2033, .ref g2134, .ref g2235, .ref g2336, .int 0, .int 0, .int 0, .int 0, .ref g2837, .int 0, .ref g3038, .ref g3139, .ref g3240, .int 0, .int 0, .int 0, .ref g3641]))]) [6] (by decide) rfl
        have hFc := va_free (wc := [(q17, .inr (6, [.int 0, .int 0, .ref g220, .int 0, .int 0, .int 0, .int 0, .int 0, .ref g821, .ref g922, .ref g1023, .ref g1124, .ref g1225, .ref g1326, .ref g1427, .ref g1528, .ref g1629, .ref g1730, .ref g1831, .ref g1932, .ref g2033, .ref g2134, .ref g2235, .ref g2336, .int 0, .int 0, .int 0, .int 0, .ref g2837, .int 0, .ref g3038, .ref g3139, .ref g3240, .int 0, .int 0, .int 0, .ref g3641]))]) hD hS hA [6] rfl
        refine va_callv (va_runV (C := "VotedTripleModel") (As := [.int 1]) (rest := []) ⟨hx, hb, hml, hown, hw⟩ (c_M_allow_0 l dC dI q17 g220 g821 g922 g1023 g1124 g1225 g1326 g1427 g1528 g1629 g1730 g1831 g1932 g2033 g2134 g2235 g2336 g2837 g3038 g3139 g3240 g3641 1 (⟨rfl, rfl⟩) H.size) (cwV 1 hw (gdV (k_982) (k_979) (k_980) (k_981) (k_8)) rfl rfl rfl (by decide +kernel) ⟨Nat.le_of_ble_eq_true rfl, Nat.le_of_ble_eq_true rfl⟩) ⟨fun a U g mk q => by obtain ⟨q0, q1, qP, qK, qD⟩ := q; exact ⟨q0, q1, qP, va_K.moved (u := U) (U := U.calling g mk a) (Vm.Alike.refl U.vm) qK, qD⟩, va_recv hK hP rfl (q0 := 6) rfl, fun U hU hW => ⟨rfl, by rw [hU], by rw [hU]; exact hPc, va_K.moved hW.alike hKc, hDc.weaken (fun _ _ _ _ => trivial)⟩⟩ rfl rfl hl.1 rfl (lv_room (Nat.le_of_ble_eq_true rfl)) d_L_law_563 ⟨Nat.le_of_ble_eq_true rfl, Nat.le_of_ble_eq_true rfl⟩) hS (fun q _ h => hFc q h) hFc (fun u9 t H1 locs ht hvm hr193 hB hz1 hk1 hS => ?_)
        obtain ⟨hP1, hK1, hD1⟩ := hB
        rw [ht] at hP1
        have hK1 := va_K.moved hvm.symm hK1
        try dsimp only at hr193 hP1 hK1 hD1
        obtain ⟨hP, hD⟩ := va_join (wr := [(a04, .inr (1, [.ref pw9, .int 0])), (pw9, .inl (cp10, 64, .inl (fun _ => 0))), (a26, .inr (3, [.ref er11, .int 0, .int 0, .int 0, .int 0, .int 0, .int 0, .ref eo12, .ref ew14, .int 0])), (eo12, .inr (5, [.ref ek13, .int 0])), (a37, .inr (4, [.ref nw15, .int 0])), (a48, .inr (5, [.ref ok16, .int 0])), (g220, .inl (cA42, 64, .inl (fun _ => 0))), (q43, .inl (cA44, 1, .inr (.inl (fun _ => 0))))]) (w1 := []) hP hD [6] [0, 1, 2, 3, 4, 5, 7, 8] rfl rfl (by decide) (by decide) hk1 hFc hP1 hD1
        have hK := (hK.sub (tys' := [(cp10, .int), (cA42, .int), (cA44, .long)]) [0, 1, 2] rfl).app hK1
        generalize H1 = H at hP hS ⊢
        have hP : va_P (dC, dI) classes [(a04, .inr (1, [.ref pw9, .int 0])), (pw9, .inl (cp10, 64, .inl (fun _ => 0))), (a26, .inr (3, [.ref er11, .int 0, .int 0, .int 0, .int 0, .int 0, .int 0, .ref eo12, .ref ew14, .int 0])), (eo12, .inr (5, [.ref ek13, .int 0])), (a37, .inr (4, [.ref nw15, .int 0])), (a48, .inr (5, [.ref ok16, .int 0])), (g220, .inl (cA42, 64, .inl (fun _ => 0))), (q43, .inl (cA44, 1, .inr (.inl (fun _ => 0))))] H := hP
        have hD : va_D A [(a04, .inr (1, [.ref pw9, .int 0])), (pw9, .inl (cp10, 64, .inl (fun _ => 0))), (a26, .inr (3, [.ref er11, .int 0, .int 0, .int 0, .int 0, .int 0, .int 0, .ref eo12, .ref ew14, .int 0])), (eo12, .inr (5, [.ref ek13, .int 0])), (a37, .inr (4, [.ref nw15, .int 0])), (a48, .inr (5, [.ref ok16, .int 0])), (g220, .inl (cA42, 64, .inl (fun _ => 0))), (q43, .inl (cA44, 1, .inr (.inl (fun _ => 0))))] := hD
        have hK : va_K (dC, dI) classes [(cp10, .int), (cA42, .int), (cA44, .long)] s := hK
        refine W.widen (k := 46) (n := 1945) (Nat.le_of_ble_eq_true rfl) (Nat.le_of_ble_eq_true rfl) ?_
        refine lv_goto (tgt := 705) hx hb d_L_law_566 rfl ?_
        refine lv_iinc (k := 0) (v := 5) hx hb d_L_law_705 hl rfl rfl (by decide) rfl (fun ls hl => ?_)
        have hl : lv_has ls 7 [(4, .int 5), (3, .ref q43), (2, .ref q17), (1, .ref q1), (0, .ref b)] := hl
        refine lv_goto (tgt := 23) hx hb d_L_law_708 rfl ?_
        refine lv_iload hx hb d_L_law_23 (lv_at hl 0 rfl) ?_
        refine lv_aload_n hx hb d_L_law_25 rfl (lv_at hl 4 rfl) ?_
        refine va_slen hx hb hX hbl hbA hS d_L_law_26 ?_
        refine lv_iconst (v := 5) hx hb d_L_law_27 (by decide) ?_
        refine lv_isub hx hb d_L_law_28 ?_
        refine lv_icmp_gt (tgt := 711) hx hb d_L_law_29 rfl (fun _ => ?_) (fun h9 => absurd (by decide) h9)
        refine lv_iconst (v := 1) hx hb d_L_law_711 (by decide) ?_
        refine va_forget (fun q hq => by have h9 := hS.2.2 q hq; rw [hAe] at h9; exact h9) ?_
        refine W.widen (k := 600002) (n := 7302232) (Nat.le_of_ble_eq_true rfl) (Nat.le_of_ble_eq_true rfl) ?_
        exact lw_ret hx hb hr hlocks d_L_law_712
    · refine lv_tableIn (off := 530) (tgt := 569) hx hb d_L_law_39 (by rw [hs47]; decide) (by rw [hs47]; decide) (by rw [hs47]; decide) rfl ?_
      refine lv_aload_n hx hb d_L_law_569 rfl (lv_at hl 3 rfl) ?_
      refine lv_aload_n hx hb d_L_law_570 rfl (lv_at hl 4 rfl) ?_
      refine lv_iload hx hb d_L_law_571 (lv_at hl 0 rfl) ?_
      refine lv_iconst (v := 1) hx hb d_L_law_573 (by decide) ?_
      refine lv_iadd hx hb d_L_law_574 ?_
      refine va_sld hx hb hX hbl hbA hS (by unfold vp_in; decide) d_L_law_575 ?_
      refine lv_topi (fun y194 e195 => ?_)
      refine lv_aload_n hx hb d_L_law_576 rfl (lv_at hl 4 rfl) ?_
      refine lv_iload hx hb d_L_law_577 (lv_at hl 0 rfl) ?_
      refine lv_iconst (v := 2) hx hb d_L_law_579 (by decide) ?_
      refine lv_iadd hx hb d_L_law_580 ?_
      refine va_sld hx hb hX hbl hbA hS (by unfold vp_in; decide) d_L_law_581 ?_
      refine lv_topi (fun y196 e197 => ?_)
      have hPc := hP.sub (ws' := [(q1, .inr (0, [.ref a04, .ref a15, .ref a26, .ref a37, .ref a48, .int 0, .int 0, .int 0, .int 0, .int 0, .int 0]))]) [0] rfl
      have hKc := hK.sub (tys' := []) [] rfl
      refine vp_callSi (va_runV (C := "VotedTriple") (As := [.int y194, .int y196]) (rest := []) ⟨hx, hb, hml, hown, hw⟩ (c_T_module_0 l dC dI q1 a04 a15 a26 a37 a48 0 0 0 0 0 y194 y196) (cwV 2 hw (gdV (k_363) (k_360) (k_361) (k_362) (k_1)) rfl rfl rfl (by decide +kernel) ⟨Nat.le_of_ble_eq_true rfl, Nat.le_of_ble_eq_true rfl⟩) ⟨fun a U g mk q => ⟨q.1, q.2.1, va_K.moved (u := U) (U := U.calling g mk a) (Vm.Alike.refl U.vm) q.2.2⟩, va_recv hK hP rfl (q0 := 0) rfl, fun U hU hW => ⟨rfl, by rw [hU]; exact hPc, va_K.moved hW.alike hKc⟩⟩ rfl rfl hl.1 rfl (lv_room (Nat.le_of_ble_eq_true rfl)) d_L_law_582 ⟨Nat.le_of_ble_eq_true rfl, Nat.le_of_ble_eq_true rfl⟩).run (fun r198 hr199 => ?_)
      subst hr199
      refine lv_aload_n hx hb d_L_law_585 rfl (lv_at hl 2 rfl) ?_
      refine lv_aload_n hx hb d_L_law_586 rfl (lv_at hl 4 rfl) ?_
      refine lv_iload hx hb d_L_law_587 (lv_at hl 0 rfl) ?_
      refine lv_iconst (v := 1) hx hb d_L_law_589 (by decide) ?_
      refine lv_iadd hx hb d_L_law_590 ?_
      refine va_sld hx hb hX hbl hbA hS (by unfold vp_in; decide) d_L_law_591 ?_
      refine lv_topi (fun y200 e201 => ?_)
      obtain rfl : y194 = y200 := e195.trans e201.symm
      refine lv_aload_n hx hb d_L_law_592 rfl (lv_at hl 4 rfl) ?_
      refine lv_iload hx hb d_L_law_593 (lv_at hl 0 rfl) ?_
      refine lv_iconst (v := 2) hx hb d_L_law_595 (by decide) ?_
      refine lv_iadd hx hb d_L_law_596 ?_
      refine va_sld hx hb hX hbl hbA hS (by unfold vp_in; decide) d_L_law_597 ?_
      refine lv_topi (fun y202 e203 => ?_)
      obtain rfl : y196 = y202 := e197.trans e203.symm
      have hPc := hP.sub (ws' := [(q17, .inr (6, [.int 0, .int 0, .ref g220, .int 0, .int 0, .int 0, .int 0, .int 0, .ref g821, .ref g922, .ref g1023, .ref g1124, .ref g1225, .ref g1326, .ref g1427, .ref g1528, .ref g1629, .ref g1730, .ref g1831, .ref g1932, .ref g2033, .ref g2134, .ref g2235, .ref g2336, .int 0, .int 0, .int 0, .int 0, .ref g2837, .int 0, .ref g3038, .ref g3139, .ref g3240, .int 0, .int 0, .int 0, .ref g3641]))]) [7] rfl
      have hKc := hK.sub (tys' := []) [] rfl
      have hDc := hD.sub (ws' := [(q17, .inr (6, [.int 0, .int 0, .ref g220, .int 0, .int 0, .int 0, .int 0, .int 0, .ref g821, .ref g922, .ref g1023, .ref g1124, .ref g1225, .ref g1326, .ref g1427, .ref g1528, .ref g1629, .ref g1730, .ref g1831, .ref g1932, .ref g2033, .ref g2134, .ref g2235, .ref g2336, .int 0, .int 0, .int 0, .int 0, .ref g2837, .int 0, .ref g3038, .ref g3139, .ref g3240, .int 0, .int 0, .int 0, .ref g3641]))]) [7] (by decide) rfl
      have hFc := va_free (wc := [(q17, .inr (6, [.int 0, .int 0, .ref g220, .int 0, .int 0, .int 0, .int 0, .int 0, .ref g821, .ref g922, .ref g1023, .ref g1124, .ref g1225, .ref g1326, .ref g1427, .ref g1528, .ref g1629, .ref g1730, .ref g1831, .ref g1932, .ref g2033, .ref g2134, .ref g2235, .ref g2336, .int 0, .int 0, .int 0, .int 0, .ref g2837, .int 0, .ref g3038, .ref g3139, .ref g3240, .int 0, .int 0, .int 0, .ref g3641]))]) hD hS hA [7] rfl
      refine va_calli (va_runV (C := "VotedTripleModel") (As := [.int y194, .int y196]) (rest := [.int (-1)]) ⟨hx, hb, hml, hown, hw⟩ (c_M_module_0 l dC dI q17 g220 g821 g922 g1023 g1124 g1225 g1326 g1427 g1528 g1629 g1730 g1831 g1932 g2033 g2134 g2235 g2336 g2837 g3038 g3139 g3240 g3641 y194 y196 H.size) (cwV 2 hw (gdV (k_986) (k_983) (k_984) (k_985) (k_8)) rfl rfl rfl (by decide +kernel) ⟨Nat.le_of_ble_eq_true rfl, Nat.le_of_ble_eq_true rfl⟩) ⟨fun a U g mk q => by obtain ⟨q0, q1, qP, qK, qD⟩ := q; exact ⟨q0, q1, qP, va_K.moved (u := U) (U := U.calling g mk a) (Vm.Alike.refl U.vm) qK, qD⟩, va_recv hK hP rfl (q0 := 7) rfl, fun U hU hW => ⟨rfl, by rw [hU], by rw [hU]; exact hPc, va_K.moved hW.alike hKc, hDc.weaken (fun _ _ _ _ => trivial)⟩⟩ rfl rfl hl.1 rfl (lv_room (Nat.le_of_ble_eq_true rfl)) d_L_law_598 ⟨Nat.le_of_ble_eq_true rfl, Nat.le_of_ble_eq_true rfl⟩) hS (fun q _ h => hFc q h) hFc (fun r204 u9 t H1 locs ht hvm hr205 hB hz1 hk1 hS => ?_)
      obtain ⟨hP1, hK1, hD1⟩ := hB
      rw [ht] at hP1
      have hK1 := va_K.moved hvm.symm hK1
      try dsimp only at hr205 hP1 hK1 hD1
      obtain ⟨hP, hD⟩ := va_join (wr := [(q1, .inr (0, [.ref a04, .ref a15, .ref a26, .ref a37, .ref a48, .int 0, .int 0, .int 0, .int 0, .int 0, .int 0])), (a04, .inr (1, [.ref pw9, .int 0])), (pw9, .inl (cp10, 64, .inl (fun _ => 0))), (a26, .inr (3, [.ref er11, .int 0, .int 0, .int 0, .int 0, .int 0, .int 0, .ref eo12, .ref ew14, .int 0])), (eo12, .inr (5, [.ref ek13, .int 0])), (a37, .inr (4, [.ref nw15, .int 0])), (a48, .inr (5, [.ref ok16, .int 0])), (g220, .inl (cA42, 64, .inl (fun _ => 0))), (q43, .inl (cA44, 1, .inr (.inl (fun _ => 0))))]) (w1 := []) hP hD [7] [0, 1, 2, 3, 4, 5, 6, 8, 9] rfl rfl (by decide) (by decide) hk1 hFc hP1 hD1
      have hK := (hK.sub (tys' := [(cp10, .int), (cA42, .int), (cA44, .long)]) [0, 1, 2] rfl).app hK1
      generalize H1 = H at hP hS ⊢
      have hP : va_P (dC, dI) classes [(q1, .inr (0, [.ref a04, .ref a15, .ref a26, .ref a37, .ref a48, .int 0, .int 0, .int 0, .int 0, .int 0, .int 0])), (a04, .inr (1, [.ref pw9, .int 0])), (pw9, .inl (cp10, 64, .inl (fun _ => 0))), (a26, .inr (3, [.ref er11, .int 0, .int 0, .int 0, .int 0, .int 0, .int 0, .ref eo12, .ref ew14, .int 0])), (eo12, .inr (5, [.ref ek13, .int 0])), (a37, .inr (4, [.ref nw15, .int 0])), (a48, .inr (5, [.ref ok16, .int 0])), (g220, .inl (cA42, 64, .inl (fun _ => 0))), (q43, .inl (cA44, 1, .inr (.inl (fun _ => 0))))] H := hP
      have hD : va_D A [(q1, .inr (0, [.ref a04, .ref a15, .ref a26, .ref a37, .ref a48, .int 0, .int 0, .int 0, .int 0, .int 0, .int 0])), (a04, .inr (1, [.ref pw9, .int 0])), (pw9, .inl (cp10, 64, .inl (fun _ => 0))), (a26, .inr (3, [.ref er11, .int 0, .int 0, .int 0, .int 0, .int 0, .int 0, .ref eo12, .ref ew14, .int 0])), (eo12, .inr (5, [.ref ek13, .int 0])), (a37, .inr (4, [.ref nw15, .int 0])), (a48, .inr (5, [.ref ok16, .int 0])), (g220, .inl (cA42, 64, .inl (fun _ => 0))), (q43, .inl (cA44, 1, .inr (.inl (fun _ => 0))))] := hD
      have hK : va_K (dC, dI) classes [(cp10, .int), (cA42, .int), (cA44, .long)] s := hK
      refine W.widen (k := 46) (n := 1945) (Nat.le_of_ble_eq_true rfl) (Nat.le_of_ble_eq_true rfl) ?_
      obtain rfl : r204 = (-1) := hr205
      refine lv_icmp_eq (tgt := 705) hx hb d_L_law_601 rfl (fun hc206 => ?_) (fun hc206 => by first | exact absurd (rfl) hc206 | exact absurd hc206 (rfl))
      refine lv_iinc (k := 0) (v := 5) hx hb d_L_law_705 hl rfl rfl (by decide) rfl (fun ls hl => ?_)
      have hl : lv_has ls 7 [(4, .int 5), (3, .ref q43), (2, .ref q17), (1, .ref q1), (0, .ref b)] := hl
      refine lv_goto (tgt := 23) hx hb d_L_law_708 rfl ?_
      refine lv_iload hx hb d_L_law_23 (lv_at hl 0 rfl) ?_
      refine lv_aload_n hx hb d_L_law_25 rfl (lv_at hl 4 rfl) ?_
      refine va_slen hx hb hX hbl hbA hS d_L_law_26 ?_
      refine lv_iconst (v := 5) hx hb d_L_law_27 (by decide) ?_
      refine lv_isub hx hb d_L_law_28 ?_
      refine lv_icmp_gt (tgt := 711) hx hb d_L_law_29 rfl (fun _ => ?_) (fun h9 => absurd (by decide) h9)
      refine lv_iconst (v := 1) hx hb d_L_law_711 (by decide) ?_
      refine va_forget (fun q hq => by have h9 := hS.2.2 q hq; rw [hAe] at h9; exact h9) ?_
      refine W.widen (k := 600002) (n := 7302232) (Nat.le_of_ble_eq_true rfl) (Nat.le_of_ble_eq_true rfl) ?_
      exact lw_ret hx hb hr hlocks d_L_law_712
    · refine lv_tableIn (off := 567) (tgt := 606) hx hb d_L_law_39 (by rw [hs47]; decide) (by rw [hs47]; decide) (by rw [hs47]; decide) rfl ?_
      refine lv_aload_n hx hb d_L_law_606 rfl (lv_at hl 3 rfl) ?_
      refine lv_aload_n hx hb d_L_law_607 rfl (lv_at hl 4 rfl) ?_
      refine lv_iload hx hb d_L_law_608 (lv_at hl 0 rfl) ?_
      refine lv_iconst (v := 1) hx hb d_L_law_610 (by decide) ?_
      refine lv_iadd hx hb d_L_law_611 ?_
      refine va_sld hx hb hX hbl hbA hS (by unfold vp_in; decide) d_L_law_612 ?_
      refine lv_topi (fun y207 e208 => ?_)
      refine lv_aload_n hx hb d_L_law_613 rfl (lv_at hl 4 rfl) ?_
      refine lv_iload hx hb d_L_law_614 (lv_at hl 0 rfl) ?_
      refine lv_iconst (v := 2) hx hb d_L_law_616 (by decide) ?_
      refine lv_iadd hx hb d_L_law_617 ?_
      refine va_sld hx hb hX hbl hbA hS (by unfold vp_in; decide) d_L_law_618 ?_
      refine lv_topi (fun y209 e210 => ?_)
      have hPc := hP.sub (ws' := [(q1, .inr (0, [.ref a04, .ref a15, .ref a26, .ref a37, .ref a48, .int 0, .int 0, .int 0, .int 0, .int 0, .int 0]))]) [0] rfl
      have hKc := hK.sub (tys' := []) [] rfl
      refine vp_callSi (va_runV (C := "VotedTriple") (As := [.int y207, .int y209]) (rest := []) ⟨hx, hb, hml, hown, hw⟩ (c_T_register_0 l dC dI q1 a04 a15 a26 a37 a48 0 0 0 0 0 y207 y209) (cwV 2 hw (gdV (k_371) (k_368) (k_369) (k_370) (k_1)) rfl rfl rfl (by decide +kernel) ⟨Nat.le_of_ble_eq_true rfl, Nat.le_of_ble_eq_true rfl⟩) ⟨fun a U g mk q => ⟨q.1, q.2.1, va_K.moved (u := U) (U := U.calling g mk a) (Vm.Alike.refl U.vm) q.2.2⟩, va_recv hK hP rfl (q0 := 0) rfl, fun U hU hW => ⟨rfl, by rw [hU]; exact hPc, va_K.moved hW.alike hKc⟩⟩ rfl rfl hl.1 rfl (lv_room (Nat.le_of_ble_eq_true rfl)) d_L_law_619 ⟨Nat.le_of_ble_eq_true rfl, Nat.le_of_ble_eq_true rfl⟩).run (fun r211 hr212 => ?_)
      subst hr212
      refine lv_aload_n hx hb d_L_law_622 rfl (lv_at hl 2 rfl) ?_
      refine lv_aload_n hx hb d_L_law_623 rfl (lv_at hl 4 rfl) ?_
      refine lv_iload hx hb d_L_law_624 (lv_at hl 0 rfl) ?_
      refine lv_iconst (v := 1) hx hb d_L_law_626 (by decide) ?_
      refine lv_iadd hx hb d_L_law_627 ?_
      refine va_sld hx hb hX hbl hbA hS (by unfold vp_in; decide) d_L_law_628 ?_
      refine lv_topi (fun y213 e214 => ?_)
      obtain rfl : y207 = y213 := e208.trans e214.symm
      refine lv_aload_n hx hb d_L_law_629 rfl (lv_at hl 4 rfl) ?_
      refine lv_iload hx hb d_L_law_630 (lv_at hl 0 rfl) ?_
      refine lv_iconst (v := 2) hx hb d_L_law_632 (by decide) ?_
      refine lv_iadd hx hb d_L_law_633 ?_
      refine va_sld hx hb hX hbl hbA hS (by unfold vp_in; decide) d_L_law_634 ?_
      refine lv_topi (fun y215 e216 => ?_)
      obtain rfl : y209 = y215 := e210.trans e216.symm
      have hPc := hP.sub (ws' := [(q17, .inr (6, [.int 0, .int 0, .ref g220, .int 0, .int 0, .int 0, .int 0, .int 0, .ref g821, .ref g922, .ref g1023, .ref g1124, .ref g1225, .ref g1326, .ref g1427, .ref g1528, .ref g1629, .ref g1730, .ref g1831, .ref g1932, .ref g2033, .ref g2134, .ref g2235, .ref g2336, .int 0, .int 0, .int 0, .int 0, .ref g2837, .int 0, .ref g3038, .ref g3139, .ref g3240, .int 0, .int 0, .int 0, .ref g3641]))]) [7] rfl
      have hKc := hK.sub (tys' := []) [] rfl
      have hDc := hD.sub (ws' := [(q17, .inr (6, [.int 0, .int 0, .ref g220, .int 0, .int 0, .int 0, .int 0, .int 0, .ref g821, .ref g922, .ref g1023, .ref g1124, .ref g1225, .ref g1326, .ref g1427, .ref g1528, .ref g1629, .ref g1730, .ref g1831, .ref g1932, .ref g2033, .ref g2134, .ref g2235, .ref g2336, .int 0, .int 0, .int 0, .int 0, .ref g2837, .int 0, .ref g3038, .ref g3139, .ref g3240, .int 0, .int 0, .int 0, .ref g3641]))]) [7] (by decide) rfl
      have hFc := va_free (wc := [(q17, .inr (6, [.int 0, .int 0, .ref g220, .int 0, .int 0, .int 0, .int 0, .int 0, .ref g821, .ref g922, .ref g1023, .ref g1124, .ref g1225, .ref g1326, .ref g1427, .ref g1528, .ref g1629, .ref g1730, .ref g1831, .ref g1932, .ref g2033, .ref g2134, .ref g2235, .ref g2336, .int 0, .int 0, .int 0, .int 0, .ref g2837, .int 0, .ref g3038, .ref g3139, .ref g3240, .int 0, .int 0, .int 0, .ref g3641]))]) hD hS hA [7] rfl
      refine va_calli (va_runV (C := "VotedTripleModel") (As := [.int y207, .int y209]) (rest := [.int (-1)]) ⟨hx, hb, hml, hown, hw⟩ (c_M_register_0 l dC dI q17 g220 g821 g922 g1023 g1124 g1225 g1326 g1427 g1528 g1629 g1730 g1831 g1932 g2033 g2134 g2235 g2336 g2837 g3038 g3139 g3240 g3641 y207 y209 H.size) (cwV 2 hw (gdV (k_990) (k_987) (k_988) (k_989) (k_8)) rfl rfl rfl (by decide +kernel) ⟨Nat.le_of_ble_eq_true rfl, Nat.le_of_ble_eq_true rfl⟩) ⟨fun a U g mk q => by obtain ⟨q0, q1, qP, qK, qD⟩ := q; exact ⟨q0, q1, qP, va_K.moved (u := U) (U := U.calling g mk a) (Vm.Alike.refl U.vm) qK, qD⟩, va_recv hK hP rfl (q0 := 7) rfl, fun U hU hW => ⟨rfl, by rw [hU], by rw [hU]; exact hPc, va_K.moved hW.alike hKc, hDc.weaken (fun _ _ _ _ => trivial)⟩⟩ rfl rfl hl.1 rfl (lv_room (Nat.le_of_ble_eq_true rfl)) d_L_law_635 ⟨Nat.le_of_ble_eq_true rfl, Nat.le_of_ble_eq_true rfl⟩) hS (fun q _ h => hFc q h) hFc (fun r217 u9 t H1 locs ht hvm hr218 hB hz1 hk1 hS => ?_)
      obtain ⟨hP1, hK1, hD1⟩ := hB
      rw [ht] at hP1
      have hK1 := va_K.moved hvm.symm hK1
      try dsimp only at hr218 hP1 hK1 hD1
      obtain ⟨hP, hD⟩ := va_join (wr := [(q1, .inr (0, [.ref a04, .ref a15, .ref a26, .ref a37, .ref a48, .int 0, .int 0, .int 0, .int 0, .int 0, .int 0])), (a04, .inr (1, [.ref pw9, .int 0])), (pw9, .inl (cp10, 64, .inl (fun _ => 0))), (a26, .inr (3, [.ref er11, .int 0, .int 0, .int 0, .int 0, .int 0, .int 0, .ref eo12, .ref ew14, .int 0])), (eo12, .inr (5, [.ref ek13, .int 0])), (a37, .inr (4, [.ref nw15, .int 0])), (a48, .inr (5, [.ref ok16, .int 0])), (g220, .inl (cA42, 64, .inl (fun _ => 0))), (q43, .inl (cA44, 1, .inr (.inl (fun _ => 0))))]) (w1 := []) hP hD [7] [0, 1, 2, 3, 4, 5, 6, 8, 9] rfl rfl (by decide) (by decide) hk1 hFc hP1 hD1
      have hK := (hK.sub (tys' := [(cp10, .int), (cA42, .int), (cA44, .long)]) [0, 1, 2] rfl).app hK1
      generalize H1 = H at hP hS ⊢
      have hP : va_P (dC, dI) classes [(q1, .inr (0, [.ref a04, .ref a15, .ref a26, .ref a37, .ref a48, .int 0, .int 0, .int 0, .int 0, .int 0, .int 0])), (a04, .inr (1, [.ref pw9, .int 0])), (pw9, .inl (cp10, 64, .inl (fun _ => 0))), (a26, .inr (3, [.ref er11, .int 0, .int 0, .int 0, .int 0, .int 0, .int 0, .ref eo12, .ref ew14, .int 0])), (eo12, .inr (5, [.ref ek13, .int 0])), (a37, .inr (4, [.ref nw15, .int 0])), (a48, .inr (5, [.ref ok16, .int 0])), (g220, .inl (cA42, 64, .inl (fun _ => 0))), (q43, .inl (cA44, 1, .inr (.inl (fun _ => 0))))] H := hP
      have hD : va_D A [(q1, .inr (0, [.ref a04, .ref a15, .ref a26, .ref a37, .ref a48, .int 0, .int 0, .int 0, .int 0, .int 0, .int 0])), (a04, .inr (1, [.ref pw9, .int 0])), (pw9, .inl (cp10, 64, .inl (fun _ => 0))), (a26, .inr (3, [.ref er11, .int 0, .int 0, .int 0, .int 0, .int 0, .int 0, .ref eo12, .ref ew14, .int 0])), (eo12, .inr (5, [.ref ek13, .int 0])), (a37, .inr (4, [.ref nw15, .int 0])), (a48, .inr (5, [.ref ok16, .int 0])), (g220, .inl (cA42, 64, .inl (fun _ => 0))), (q43, .inl (cA44, 1, .inr (.inl (fun _ => 0))))] := hD
      have hK : va_K (dC, dI) classes [(cp10, .int), (cA42, .int), (cA44, .long)] s := hK
      refine W.widen (k := 46) (n := 1945) (Nat.le_of_ble_eq_true rfl) (Nat.le_of_ble_eq_true rfl) ?_
      obtain rfl : r217 = (-1) := hr218
      refine lv_icmp_eq (tgt := 705) hx hb d_L_law_638 rfl (fun hc219 => ?_) (fun hc219 => by first | exact absurd (rfl) hc219 | exact absurd hc219 (rfl))
      refine lv_iinc (k := 0) (v := 5) hx hb d_L_law_705 hl rfl rfl (by decide) rfl (fun ls hl => ?_)
      have hl : lv_has ls 7 [(4, .int 5), (3, .ref q43), (2, .ref q17), (1, .ref q1), (0, .ref b)] := hl
      refine lv_goto (tgt := 23) hx hb d_L_law_708 rfl ?_
      refine lv_iload hx hb d_L_law_23 (lv_at hl 0 rfl) ?_
      refine lv_aload_n hx hb d_L_law_25 rfl (lv_at hl 4 rfl) ?_
      refine va_slen hx hb hX hbl hbA hS d_L_law_26 ?_
      refine lv_iconst (v := 5) hx hb d_L_law_27 (by decide) ?_
      refine lv_isub hx hb d_L_law_28 ?_
      refine lv_icmp_gt (tgt := 711) hx hb d_L_law_29 rfl (fun _ => ?_) (fun h9 => absurd (by decide) h9)
      refine lv_iconst (v := 1) hx hb d_L_law_711 (by decide) ?_
      refine va_forget (fun q hq => by have h9 := hS.2.2 q hq; rw [hAe] at h9; exact h9) ?_
      refine W.widen (k := 600002) (n := 7302232) (Nat.le_of_ble_eq_true rfl) (Nat.le_of_ble_eq_true rfl) ?_
      exact lw_ret hx hb hr hlocks d_L_law_712
    · refine lv_tableIn (off := 604) (tgt := 643) hx hb d_L_law_39 (by rw [hs47]; decide) (by rw [hs47]; decide) (by rw [hs47]; decide) rfl ?_
      refine lv_aload_n hx hb d_L_law_643 rfl (lv_at hl 3 rfl) ?_
      refine lv_aload_n hx hb d_L_law_644 rfl (lv_at hl 4 rfl) ?_
      refine lv_iload hx hb d_L_law_645 (lv_at hl 0 rfl) ?_
      refine lv_iconst (v := 1) hx hb d_L_law_647 (by decide) ?_
      refine lv_iadd hx hb d_L_law_648 ?_
      refine va_sld hx hb hX hbl hbA hS (by unfold vp_in; decide) d_L_law_649 ?_
      refine lv_topi (fun y220 e221 => ?_)
      refine lv_aload_n hx hb d_L_law_650 rfl (lv_at hl 4 rfl) ?_
      refine lv_iload hx hb d_L_law_651 (lv_at hl 0 rfl) ?_
      refine lv_iconst (v := 2) hx hb d_L_law_653 (by decide) ?_
      refine lv_iadd hx hb d_L_law_654 ?_
      refine va_sld hx hb hX hbl hbA hS (by unfold vp_in; decide) d_L_law_655 ?_
      refine lv_topi (fun y222 e223 => ?_)
      have hPc := hP.sub (ws' := [(q1, .inr (0, [.ref a04, .ref a15, .ref a26, .ref a37, .ref a48, .int 0, .int 0, .int 0, .int 0, .int 0, .int 0]))]) [0] rfl
      have hKc := hK.sub (tys' := []) [] rfl
      refine vp_callSi (va_runV (C := "VotedTriple") (As := [.int y220, .int y222]) (rest := []) ⟨hx, hb, hml, hown, hw⟩ (c_T_code_0 l dC dI q1 a04 a15 a26 a37 a48 0 0 0 0 0 y220 y222) (cwV 2 hw (gdV (k_375) (k_372) (k_373) (k_374) (k_1)) rfl rfl rfl (by decide +kernel) ⟨Nat.le_of_ble_eq_true rfl, Nat.le_of_ble_eq_true rfl⟩) ⟨fun a U g mk q => ⟨q.1, q.2.1, va_K.moved (u := U) (U := U.calling g mk a) (Vm.Alike.refl U.vm) q.2.2⟩, va_recv hK hP rfl (q0 := 0) rfl, fun U hU hW => ⟨rfl, by rw [hU]; exact hPc, va_K.moved hW.alike hKc⟩⟩ rfl rfl hl.1 rfl (lv_room (Nat.le_of_ble_eq_true rfl)) d_L_law_656 ⟨Nat.le_of_ble_eq_true rfl, Nat.le_of_ble_eq_true rfl⟩).run (fun r224 hr225 => ?_)
      subst hr225
      refine lv_aload_n hx hb d_L_law_659 rfl (lv_at hl 2 rfl) ?_
      refine lv_aload_n hx hb d_L_law_660 rfl (lv_at hl 4 rfl) ?_
      refine lv_iload hx hb d_L_law_661 (lv_at hl 0 rfl) ?_
      refine lv_iconst (v := 1) hx hb d_L_law_663 (by decide) ?_
      refine lv_iadd hx hb d_L_law_664 ?_
      refine va_sld hx hb hX hbl hbA hS (by unfold vp_in; decide) d_L_law_665 ?_
      refine lv_topi (fun y226 e227 => ?_)
      obtain rfl : y220 = y226 := e221.trans e227.symm
      refine lv_aload_n hx hb d_L_law_666 rfl (lv_at hl 4 rfl) ?_
      refine lv_iload hx hb d_L_law_667 (lv_at hl 0 rfl) ?_
      refine lv_iconst (v := 2) hx hb d_L_law_669 (by decide) ?_
      refine lv_iadd hx hb d_L_law_670 ?_
      refine va_sld hx hb hX hbl hbA hS (by unfold vp_in; decide) d_L_law_671 ?_
      refine lv_topi (fun y228 e229 => ?_)
      obtain rfl : y222 = y228 := e223.trans e229.symm
      have hPc := hP.sub (ws' := [(q17, .inr (6, [.int 0, .int 0, .ref g220, .int 0, .int 0, .int 0, .int 0, .int 0, .ref g821, .ref g922, .ref g1023, .ref g1124, .ref g1225, .ref g1326, .ref g1427, .ref g1528, .ref g1629, .ref g1730, .ref g1831, .ref g1932, .ref g2033, .ref g2134, .ref g2235, .ref g2336, .int 0, .int 0, .int 0, .int 0, .ref g2837, .int 0, .ref g3038, .ref g3139, .ref g3240, .int 0, .int 0, .int 0, .ref g3641]))]) [7] rfl
      have hKc := hK.sub (tys' := []) [] rfl
      have hDc := hD.sub (ws' := [(q17, .inr (6, [.int 0, .int 0, .ref g220, .int 0, .int 0, .int 0, .int 0, .int 0, .ref g821, .ref g922, .ref g1023, .ref g1124, .ref g1225, .ref g1326, .ref g1427, .ref g1528, .ref g1629, .ref g1730, .ref g1831, .ref g1932, .ref g2033, .ref g2134, .ref g2235, .ref g2336, .int 0, .int 0, .int 0, .int 0, .ref g2837, .int 0, .ref g3038, .ref g3139, .ref g3240, .int 0, .int 0, .int 0, .ref g3641]))]) [7] (by decide) rfl
      have hFc := va_free (wc := [(q17, .inr (6, [.int 0, .int 0, .ref g220, .int 0, .int 0, .int 0, .int 0, .int 0, .ref g821, .ref g922, .ref g1023, .ref g1124, .ref g1225, .ref g1326, .ref g1427, .ref g1528, .ref g1629, .ref g1730, .ref g1831, .ref g1932, .ref g2033, .ref g2134, .ref g2235, .ref g2336, .int 0, .int 0, .int 0, .int 0, .ref g2837, .int 0, .ref g3038, .ref g3139, .ref g3240, .int 0, .int 0, .int 0, .ref g3641]))]) hD hS hA [7] rfl
      refine va_calli (va_runV (C := "VotedTripleModel") (As := [.int y220, .int y222]) (rest := [.int (-1)]) ⟨hx, hb, hml, hown, hw⟩ (c_M_code_0 l dC dI q17 g220 g821 g922 g1023 g1124 g1225 g1326 g1427 g1528 g1629 g1730 g1831 g1932 g2033 g2134 g2235 g2336 g2837 g3038 g3139 g3240 g3641 y220 y222 H.size) (cwV 2 hw (gdV (k_994) (k_991) (k_992) (k_993) (k_8)) rfl rfl rfl (by decide +kernel) ⟨Nat.le_of_ble_eq_true rfl, Nat.le_of_ble_eq_true rfl⟩) ⟨fun a U g mk q => by obtain ⟨q0, q1, qP, qK, qD⟩ := q; exact ⟨q0, q1, qP, va_K.moved (u := U) (U := U.calling g mk a) (Vm.Alike.refl U.vm) qK, qD⟩, va_recv hK hP rfl (q0 := 7) rfl, fun U hU hW => ⟨rfl, by rw [hU], by rw [hU]; exact hPc, va_K.moved hW.alike hKc, hDc.weaken (fun _ _ _ _ => trivial)⟩⟩ rfl rfl hl.1 rfl (lv_room (Nat.le_of_ble_eq_true rfl)) d_L_law_672 ⟨Nat.le_of_ble_eq_true rfl, Nat.le_of_ble_eq_true rfl⟩) hS (fun q _ h => hFc q h) hFc (fun r230 u9 t H1 locs ht hvm hr231 hB hz1 hk1 hS => ?_)
      obtain ⟨hP1, hK1, hD1⟩ := hB
      rw [ht] at hP1
      have hK1 := va_K.moved hvm.symm hK1
      try dsimp only at hr231 hP1 hK1 hD1
      obtain ⟨hP, hD⟩ := va_join (wr := [(q1, .inr (0, [.ref a04, .ref a15, .ref a26, .ref a37, .ref a48, .int 0, .int 0, .int 0, .int 0, .int 0, .int 0])), (a04, .inr (1, [.ref pw9, .int 0])), (pw9, .inl (cp10, 64, .inl (fun _ => 0))), (a26, .inr (3, [.ref er11, .int 0, .int 0, .int 0, .int 0, .int 0, .int 0, .ref eo12, .ref ew14, .int 0])), (eo12, .inr (5, [.ref ek13, .int 0])), (a37, .inr (4, [.ref nw15, .int 0])), (a48, .inr (5, [.ref ok16, .int 0])), (g220, .inl (cA42, 64, .inl (fun _ => 0))), (q43, .inl (cA44, 1, .inr (.inl (fun _ => 0))))]) (w1 := []) hP hD [7] [0, 1, 2, 3, 4, 5, 6, 8, 9] rfl rfl (by decide) (by decide) hk1 hFc hP1 hD1
      have hK := (hK.sub (tys' := [(cp10, .int), (cA42, .int), (cA44, .long)]) [0, 1, 2] rfl).app hK1
      generalize H1 = H at hP hS ⊢
      have hP : va_P (dC, dI) classes [(q1, .inr (0, [.ref a04, .ref a15, .ref a26, .ref a37, .ref a48, .int 0, .int 0, .int 0, .int 0, .int 0, .int 0])), (a04, .inr (1, [.ref pw9, .int 0])), (pw9, .inl (cp10, 64, .inl (fun _ => 0))), (a26, .inr (3, [.ref er11, .int 0, .int 0, .int 0, .int 0, .int 0, .int 0, .ref eo12, .ref ew14, .int 0])), (eo12, .inr (5, [.ref ek13, .int 0])), (a37, .inr (4, [.ref nw15, .int 0])), (a48, .inr (5, [.ref ok16, .int 0])), (g220, .inl (cA42, 64, .inl (fun _ => 0))), (q43, .inl (cA44, 1, .inr (.inl (fun _ => 0))))] H := hP
      have hD : va_D A [(q1, .inr (0, [.ref a04, .ref a15, .ref a26, .ref a37, .ref a48, .int 0, .int 0, .int 0, .int 0, .int 0, .int 0])), (a04, .inr (1, [.ref pw9, .int 0])), (pw9, .inl (cp10, 64, .inl (fun _ => 0))), (a26, .inr (3, [.ref er11, .int 0, .int 0, .int 0, .int 0, .int 0, .int 0, .ref eo12, .ref ew14, .int 0])), (eo12, .inr (5, [.ref ek13, .int 0])), (a37, .inr (4, [.ref nw15, .int 0])), (a48, .inr (5, [.ref ok16, .int 0])), (g220, .inl (cA42, 64, .inl (fun _ => 0))), (q43, .inl (cA44, 1, .inr (.inl (fun _ => 0))))] := hD
      have hK : va_K (dC, dI) classes [(cp10, .int), (cA42, .int), (cA44, .long)] s := hK
      refine W.widen (k := 46) (n := 1945) (Nat.le_of_ble_eq_true rfl) (Nat.le_of_ble_eq_true rfl) ?_
      obtain rfl : r230 = (-1) := hr231
      refine lv_icmp_eq (tgt := 705) hx hb d_L_law_675 rfl (fun hc232 => ?_) (fun hc232 => by first | exact absurd (rfl) hc232 | exact absurd hc232 (rfl))
      refine lv_iinc (k := 0) (v := 5) hx hb d_L_law_705 hl rfl rfl (by decide) rfl (fun ls hl => ?_)
      have hl : lv_has ls 7 [(4, .int 5), (3, .ref q43), (2, .ref q17), (1, .ref q1), (0, .ref b)] := hl
      refine lv_goto (tgt := 23) hx hb d_L_law_708 rfl ?_
      refine lv_iload hx hb d_L_law_23 (lv_at hl 0 rfl) ?_
      refine lv_aload_n hx hb d_L_law_25 rfl (lv_at hl 4 rfl) ?_
      refine va_slen hx hb hX hbl hbA hS d_L_law_26 ?_
      refine lv_iconst (v := 5) hx hb d_L_law_27 (by decide) ?_
      refine lv_isub hx hb d_L_law_28 ?_
      refine lv_icmp_gt (tgt := 711) hx hb d_L_law_29 rfl (fun _ => ?_) (fun h9 => absurd (by decide) h9)
      refine lv_iconst (v := 1) hx hb d_L_law_711 (by decide) ?_
      refine va_forget (fun q hq => by have h9 := hS.2.2 q hq; rw [hAe] at h9; exact h9) ?_
      refine W.widen (k := 600002) (n := 7302232) (Nat.le_of_ble_eq_true rfl) (Nat.le_of_ble_eq_true rfl) ?_
      exact lw_ret hx hb hr hlocks d_L_law_712
    · refine lv_tableIn (off := 641) (tgt := 680) hx hb d_L_law_39 (by rw [hs47]; decide) (by rw [hs47]; decide) (by rw [hs47]; decide) rfl ?_
      refine lv_aload_n hx hb d_L_law_680 rfl (lv_at hl 3 rfl) ?_
      refine lv_aload_n hx hb d_L_law_681 rfl (lv_at hl 4 rfl) ?_
      refine lv_iload hx hb d_L_law_682 (lv_at hl 0 rfl) ?_
      refine lv_iconst (v := 1) hx hb d_L_law_684 (by decide) ?_
      refine lv_iadd hx hb d_L_law_685 ?_
      refine va_sld hx hb hX hbl hbA hS (by unfold vp_in; decide) d_L_law_686 ?_
      refine lv_topi (fun y233 e234 => ?_)
      have hPc := hP.sub (ws' := [(q1, .inr (0, [.ref a04, .ref a15, .ref a26, .ref a37, .ref a48, .int 0, .int 0, .int 0, .int 0, .int 0, .int 0])), (a48, .inr (5, [.ref ok16, .int 0])), (a26, .inr (3, [.ref er11, .int 0, .int 0, .int 0, .int 0, .int 0, .int 0, .ref eo12, .ref ew14, .int 0])), (eo12, .inr (5, [.ref ek13, .int 0])), (a37, .inr (4, [.ref nw15, .int 0]))]) [0, 6, 3, 4, 5] rfl
      have hKc := hK.sub (tys' := []) [] rfl
      refine vp_callSi (va_runV (C := "VotedTriple") (As := [.int y233]) (rest := []) ⟨hx, hb, hml, hown, hw⟩ (c_T_state_0 l dC dI q1 a04 a15 a26 a37 a48 ok16 er11 eo12 ew14 ek13 nw15 y233) (cwV 1 hw (gdV (k_379) (k_376) (k_377) (k_378) (k_1)) rfl rfl rfl (by decide +kernel) ⟨Nat.le_of_ble_eq_true rfl, Nat.le_of_ble_eq_true rfl⟩) ⟨fun a U g mk q => ⟨q.1, q.2.1, va_K.moved (u := U) (U := U.calling g mk a) (Vm.Alike.refl U.vm) q.2.2⟩, va_recv hK hP rfl (q0 := 0) rfl, fun U hU hW => ⟨rfl, by rw [hU]; exact hPc, va_K.moved hW.alike hKc⟩⟩ rfl rfl hl.1 rfl (lv_room (Nat.le_of_ble_eq_true rfl)) d_L_law_687 ⟨Nat.le_of_ble_eq_true rfl, Nat.le_of_ble_eq_true rfl⟩).run (fun r235 hr236 => ?_)
      subst hr236
      refine lv_aload_n hx hb d_L_law_690 rfl (lv_at hl 2 rfl) ?_
      refine lv_aload_n hx hb d_L_law_691 rfl (lv_at hl 4 rfl) ?_
      refine lv_iload hx hb d_L_law_692 (lv_at hl 0 rfl) ?_
      refine lv_iconst (v := 1) hx hb d_L_law_694 (by decide) ?_
      refine lv_iadd hx hb d_L_law_695 ?_
      refine va_sld hx hb hX hbl hbA hS (by unfold vp_in; decide) d_L_law_696 ?_
      refine lv_topi (fun y237 e238 => ?_)
      obtain rfl : y233 = y237 := e234.trans e238.symm
      have hPc := hP.sub (ws' := [(q17, .inr (6, [.int 0, .int 0, .ref g220, .int 0, .int 0, .int 0, .int 0, .int 0, .ref g821, .ref g922, .ref g1023, .ref g1124, .ref g1225, .ref g1326, .ref g1427, .ref g1528, .ref g1629, .ref g1730, .ref g1831, .ref g1932, .ref g2033, .ref g2134, .ref g2235, .ref g2336, .int 0, .int 0, .int 0, .int 0, .ref g2837, .int 0, .ref g3038, .ref g3139, .ref g3240, .int 0, .int 0, .int 0, .ref g3641]))]) [7] rfl
      have hKc := hK.sub (tys' := []) [] rfl
      have hDc := hD.sub (ws' := [(q17, .inr (6, [.int 0, .int 0, .ref g220, .int 0, .int 0, .int 0, .int 0, .int 0, .ref g821, .ref g922, .ref g1023, .ref g1124, .ref g1225, .ref g1326, .ref g1427, .ref g1528, .ref g1629, .ref g1730, .ref g1831, .ref g1932, .ref g2033, .ref g2134, .ref g2235, .ref g2336, .int 0, .int 0, .int 0, .int 0, .ref g2837, .int 0, .ref g3038, .ref g3139, .ref g3240, .int 0, .int 0, .int 0, .ref g3641]))]) [7] (by decide) rfl
      have hFc := va_free (wc := [(q17, .inr (6, [.int 0, .int 0, .ref g220, .int 0, .int 0, .int 0, .int 0, .int 0, .ref g821, .ref g922, .ref g1023, .ref g1124, .ref g1225, .ref g1326, .ref g1427, .ref g1528, .ref g1629, .ref g1730, .ref g1831, .ref g1932, .ref g2033, .ref g2134, .ref g2235, .ref g2336, .int 0, .int 0, .int 0, .int 0, .ref g2837, .int 0, .ref g3038, .ref g3139, .ref g3240, .int 0, .int 0, .int 0, .ref g3641]))]) hD hS hA [7] rfl
      refine va_calli (va_runV (C := "VotedTripleModel") (As := [.int y233]) (rest := [.int (stF y233)]) ⟨hx, hb, hml, hown, hw⟩ (c_M_state_0 l dC dI q17 g220 g821 g922 g1023 g1124 g1225 g1326 g1427 g1528 g1629 g1730 g1831 g1932 g2033 g2134 g2235 g2336 g2837 g3038 g3139 g3240 g3641 y233 H.size) (cwV 1 hw (gdV (k_998) (k_995) (k_996) (k_997) (k_8)) rfl rfl rfl (by decide +kernel) ⟨Nat.le_of_ble_eq_true rfl, Nat.le_of_ble_eq_true rfl⟩) ⟨fun a U g mk q => by obtain ⟨q0, q1, qP, qK, qD⟩ := q; exact ⟨q0, q1, qP, va_K.moved (u := U) (U := U.calling g mk a) (Vm.Alike.refl U.vm) qK, qD⟩, va_recv hK hP rfl (q0 := 7) rfl, fun U hU hW => ⟨rfl, by rw [hU], by rw [hU]; exact hPc, va_K.moved hW.alike hKc, hDc.weaken (fun _ _ _ _ => trivial)⟩⟩ rfl rfl hl.1 rfl (lv_room (Nat.le_of_ble_eq_true rfl)) d_L_law_697 ⟨Nat.le_of_ble_eq_true rfl, Nat.le_of_ble_eq_true rfl⟩) hS (fun q _ h => hFc q h) hFc (fun r239 u9 t H1 locs ht hvm hr240 hB hz1 hk1 hS => ?_)
      obtain ⟨hP1, hK1, hD1⟩ := hB
      rw [ht] at hP1
      have hK1 := va_K.moved hvm.symm hK1
      try dsimp only at hr240 hP1 hK1 hD1
      obtain ⟨hP, hD⟩ := va_join (wr := [(q1, .inr (0, [.ref a04, .ref a15, .ref a26, .ref a37, .ref a48, .int 0, .int 0, .int 0, .int 0, .int 0, .int 0])), (a04, .inr (1, [.ref pw9, .int 0])), (pw9, .inl (cp10, 64, .inl (fun _ => 0))), (a26, .inr (3, [.ref er11, .int 0, .int 0, .int 0, .int 0, .int 0, .int 0, .ref eo12, .ref ew14, .int 0])), (eo12, .inr (5, [.ref ek13, .int 0])), (a37, .inr (4, [.ref nw15, .int 0])), (a48, .inr (5, [.ref ok16, .int 0])), (g220, .inl (cA42, 64, .inl (fun _ => 0))), (q43, .inl (cA44, 1, .inr (.inl (fun _ => 0))))]) (w1 := []) hP hD [7] [0, 1, 2, 3, 4, 5, 6, 8, 9] rfl rfl (by decide) (by decide) hk1 hFc hP1 hD1
      have hK := (hK.sub (tys' := [(cp10, .int), (cA42, .int), (cA44, .long)]) [0, 1, 2] rfl).app hK1
      generalize H1 = H at hP hS ⊢
      have hP : va_P (dC, dI) classes [(q1, .inr (0, [.ref a04, .ref a15, .ref a26, .ref a37, .ref a48, .int 0, .int 0, .int 0, .int 0, .int 0, .int 0])), (a04, .inr (1, [.ref pw9, .int 0])), (pw9, .inl (cp10, 64, .inl (fun _ => 0))), (a26, .inr (3, [.ref er11, .int 0, .int 0, .int 0, .int 0, .int 0, .int 0, .ref eo12, .ref ew14, .int 0])), (eo12, .inr (5, [.ref ek13, .int 0])), (a37, .inr (4, [.ref nw15, .int 0])), (a48, .inr (5, [.ref ok16, .int 0])), (g220, .inl (cA42, 64, .inl (fun _ => 0))), (q43, .inl (cA44, 1, .inr (.inl (fun _ => 0))))] H := hP
      have hD : va_D A [(q1, .inr (0, [.ref a04, .ref a15, .ref a26, .ref a37, .ref a48, .int 0, .int 0, .int 0, .int 0, .int 0, .int 0])), (a04, .inr (1, [.ref pw9, .int 0])), (pw9, .inl (cp10, 64, .inl (fun _ => 0))), (a26, .inr (3, [.ref er11, .int 0, .int 0, .int 0, .int 0, .int 0, .int 0, .ref eo12, .ref ew14, .int 0])), (eo12, .inr (5, [.ref ek13, .int 0])), (a37, .inr (4, [.ref nw15, .int 0])), (a48, .inr (5, [.ref ok16, .int 0])), (g220, .inl (cA42, 64, .inl (fun _ => 0))), (q43, .inl (cA44, 1, .inr (.inl (fun _ => 0))))] := hD
      have hK : va_K (dC, dI) classes [(cp10, .int), (cA42, .int), (cA44, .long)] s := hK
      refine W.widen (k := 46) (n := 1945) (Nat.le_of_ble_eq_true rfl) (Nat.le_of_ble_eq_true rfl) ?_
      obtain rfl : r239 = stF y233 := hr240
      refine lv_icmp_eq (tgt := 705) hx hb d_L_law_700 rfl (fun hc241 => ?_) (fun hc241 => by first | exact absurd (rfl) hc241 | exact absurd hc241 (rfl))
      refine lv_iinc (k := 0) (v := 5) hx hb d_L_law_705 hl rfl rfl (by decide) rfl (fun ls hl => ?_)
      have hl : lv_has ls 7 [(4, .int 5), (3, .ref q43), (2, .ref q17), (1, .ref q1), (0, .ref b)] := hl
      refine lv_goto (tgt := 23) hx hb d_L_law_708 rfl ?_
      refine lv_iload hx hb d_L_law_23 (lv_at hl 0 rfl) ?_
      refine lv_aload_n hx hb d_L_law_25 rfl (lv_at hl 4 rfl) ?_
      refine va_slen hx hb hX hbl hbA hS d_L_law_26 ?_
      refine lv_iconst (v := 5) hx hb d_L_law_27 (by decide) ?_
      refine lv_isub hx hb d_L_law_28 ?_
      refine lv_icmp_gt (tgt := 711) hx hb d_L_law_29 rfl (fun _ => ?_) (fun h9 => absurd (by decide) h9)
      refine lv_iconst (v := 1) hx hb d_L_law_711 (by decide) ?_
      refine va_forget (fun q hq => by have h9 := hS.2.2 q hq; rw [hAe] at h9; exact h9) ?_
      refine W.widen (k := 600002) (n := 7302232) (Nat.le_of_ble_eq_true rfl) (Nat.le_of_ble_eq_true rfl) ?_
      exact lw_ret hx hb hr hlocks d_L_law_712
    · refine lv_tableOut (tgt := 705) hx hb d_L_law_39 hs47 rfl ?_
      refine lv_iinc (k := 0) (v := 5) hx hb d_L_law_705 hl rfl rfl (by decide) rfl (fun ls hl => ?_)
      have hl : lv_has ls 7 [(4, .int 5), (3, .ref q43), (2, .ref q17), (1, .ref q1), (0, .ref b)] := hl
      refine lv_goto (tgt := 23) hx hb d_L_law_708 rfl ?_
      refine lv_iload hx hb d_L_law_23 (lv_at hl 0 rfl) ?_
      refine lv_aload_n hx hb d_L_law_25 rfl (lv_at hl 4 rfl) ?_
      refine va_slen hx hb hX hbl hbA hS d_L_law_26 ?_
      refine lv_iconst (v := 5) hx hb d_L_law_27 (by decide) ?_
      refine lv_isub hx hb d_L_law_28 ?_
      refine lv_icmp_gt (tgt := 711) hx hb d_L_law_29 rfl (fun _ => ?_) (fun h9 => absurd (by decide) h9)
      refine lv_iconst (v := 1) hx hb d_L_law_711 (by decide) ?_
      refine va_forget (fun q hq => by have h9 := hS.2.2 q hq; rw [hAe] at h9; exact h9) ?_
      refine W.widen (k := 600002) (n := 7302232) (Nat.le_of_ble_eq_true rfl) (Nat.le_of_ble_eq_true rfl) ?_
      exact lw_ret hx hb hr hlocks d_L_law_712
set_option maxHeartbeats 4000000 in
theorem lw_walk (l : Launch) (hst : l.stackTraces = false) (b : Addr) (xs : List Int32) : MetFree l x (headSpec (Jvm.Cond.code x code maxLocals ret :: tables_1) room_1) (lw_P b xs) (fun _ _ _ _ _ => True) lw_Q := by
  refine MetFree.of_bodyS (code := code) (maxLocals := maxLocals) (ret := ret) (by decide) ?_ ?_
  · intro args s m h hn
    obtain ⟨meth, c, h1, h2, h3, h4, h5, h6, -, -⟩ := Cond.code_spec hn (atoms_spec (ws := Jvm.Cond.code x code maxLocals ret :: tables_1) h _ List.mem_cons_self)
    exact ⟨meth, c, h1, h2, h3, h4, h5, h6⟩
  · intro p e s m args below meth c s₁ B hml0 hP _
    obtain ⟨rfl, hx, hbd, hgv⟩ := hP
    obtain ⟨scr, harrAt, hlist, hof, hsmall⟩ := hx
    obtain ⟨hcb, hkn, -, -⟩ := State.arrayAt?_spec harrAt
    have hown : s.vm.findClass R_law = some m.cls := findClass_of_methodNamed B.named
    have hts0 : ∀ c ∈ (Jvm.Cond.code x code maxLocals ret :: tables_1), c.before #[Value.ref b] s = true := atoms_spec (ws := Jvm.Cond.code x code maxLocals ret :: tables_1) B.pre
    have hts : ∀ w ∈ lw_tbl, w.before #[Value.ref b] s = true := k2_hts_sels lw_privs (fun w hw => hts0 w (List.mem_cons_of_mem _ hw)) lw_privs_ok
    have hml : c.maxLocals = 7 := B.maxLocals_eq (hts0 _ List.mem_cons_self)
    have X₀ : Stand p l e room_1 s m #[Value.ref b] below meth c s₁ [] 0 0 := Stand.of_body B
    have hh0 : s₁.heap = s.heap := by rw [B.state]; rfl
    have hsz : scr.slots.size = xs.length := by rw [← Array.length_toList, hlist, List.length_map]
    have hval : ∀ j : Nat, j < xs.length → scr.slots[j]? = some (.int (xs.getD j 0)) := fun j hj => by
      rw [← Array.getElem?_toList, hlist]
      simp [hj]
    have hbl : b < s.heap.size := (Array.getElem?_eq_some_iff.mp hcb).1
    have hX : va_X b xs.length (fun j => xs.getD j 0) s s.heap := ⟨scr, hcb, hof, hkn, hsz, hval⟩
    have K : W p l e room_1 s m #[Value.ref b] below meth c s₁.heap [] 0 0 (lw_Z below #[Value.ref b] s) (entryFrame m ([Value.ref b] : List Value).toArray 7) := by
      rw [hh0]
      exact whole_start l hst hbd ⟨B.exec, B.bytes, B.returns, hml, hown, hts, hX, hbl, B.notSynchronized, hgv⟩
    obtain ⟨t, a1, o, b1, b2, b3⟩ := K s₁ rfl X₀
    exact ⟨t, o, a1, b1, b2, b3⟩
theorem lw_pre_spec {args : Array Value} {s : State} (h : (Jvm.Cond.and given_1 narrow_1).before args s = true) (hr : rest_1_c.before args s = true) : ∃ (b : Addr) (xs : List Int32), lw_P b xs args s := by
  have hs := flat_of_before _ h
  have hq := flat_of_before _ hr
  have hc : (Cond.count 1).before args s = true := hs _ (by decide +kernel)
  have harr : (Cond.arrayOf (.arg 0) .int).before args s = true := hs _ (by decide +kernel)
  have hle : (Cond.le (.length (.arg 0)) (.int 5)).before args s = true := hs _ (by decide +kernel)
  have hlen : (Cond.isInt (.length (.arg 0))).before args s = true := hq _ (by decide +kernel)
  have hall : (Cond.all (.arg 0) (.isInt (.elem (.arg 0) (.index 0)))).before args s = true := hq _ (by decide +kernel)
  obtain ⟨b, xs, hb, hx⟩ := State.ints_of_pre rfl harr hlen hall
  have hsm : xs.length < 2 ^ 31 := hx.choose_spec.2.2.2
  have hev : (Term.length (.arg 0)).eval args s none [] s = some (.int xs.length.toInt32) := hx.length_eval hb
  have hv := Cond.le_ints hev (show (Term.int 5).eval args s none [] s = some (.int 5) from rfl)
  have hd : xs.length.toInt32 ≤ 5 := by
    simpa [Cond.before, Cond.holds, hv] using hle
  have hN : xs.length ≤ 5 := (Int32.ofNat_le_ofNat hsm (by decide)).mp (show Int32.ofNat xs.length ≤ Int32.ofNat 5 from hd)
  exact ⟨b, xs, Cond.one_arg hc (show args[0]? = some (.ref b) from hb), hx, hN, h⟩
theorem lw_comes (l : Launch) (hst : l.stackTraces = false) : Comes l x (Jvm.Cond.code x code maxLocals ret :: tables_1) room_1 (fun tb e args s => Calls_1 tb e args s ∧ rest_1 tb e args s ∧ Pre_1 tb e args s)
    (fun _ _ args s o t => lw_Q args s o t) := by
  intro p e ha hc hk s m args below hf hfit hheap happ hpre
  obtain ⟨b, xs, hP⟩ := lw_pre_spec hpre.2.2 hpre.2.1
  obtain ⟨k, o, h1, h2, h3, hQ⟩ := lw_walk l hst b xs p e ha hc hk s m args below hf ((Spec.applies_iff_loose hf).mp happ).1 hP trivial
  exact ⟨k, o, h1, h2, h3, hQ⟩
theorem lw_frame {s t : State} {o : Outcome} {args : Array Value} (h : Framed s o t [] 600002 7302232) :
    Framed s o t (fieldLocs frame_1_writes args s ++ arrayLocs frame_1_arrays args s ++ staticLocs frame_1_statics s) 600002 7302232 := h
theorem lw_limb (L : Cond) (hL : ∀ (args : Array Value) (s t : State), L.after args s (.returned (some (.int 1))) t = true) :
    ArmFor flags0 classFile x code maxLocals ret World_1 tables_1 room_1 Calls_1 rest_1 Pre_1
      (fun tb e a s o t => postC L tb e a s o t ∧ Framed s o t (fieldLocs frame_1_writes a s ++ arrayLocs frame_1_arrays a s ++ staticLocs frame_1_statics s) 600002 7302232) := by
  intro l hfl _ _ p e ha hc hk s m args below hf hfit hheap happ hpre
  obtain ⟨k, o, h1, h2, h3, rfl, hF⟩ := lw_comes l (by unfold Launch.stackTraces; rw [hfl]; decide +kernel) p e ha hc hk s m args below hf hfit hheap happ hpre
  exact ⟨k, _, h1, h2, h3, hL args s _, lw_frame hF⟩
theorem i_vc : Claimed_1_1 ∧ Claimed_1_2 := ⟨lw_limb limb_1_1 (fun args s t => by simp [limb_1_1, Cond.after, Cond.holds, Cond.value]), lw_limb limb_1_2 (fun args s t => Cond.after_iff.mpr (by
  first | (rw [show limb_1_2 = Cond.eq .result (.int 1) from rfl, Cond.eq_ints (x := 1) (y := 1) rfl rfl]; simp; done) | (simp [limb_1_2, Cond.value, Term.eval]; done)))⟩
