theorem kn_of {args : Array Value} {s : State} (hw : ∀ z9 ∈ tb, z9.before args s = true) : ∃ (dC : Nat → ClassId) (dI : Nat → Nat → Nat), va_K (dC, dI) classes [] s := by
  obtain ⟨c0, i0, h0⟩ := u_known hw in_T (hw _ k_19)
  obtain ⟨c1, i1, h1⟩ := u_known hw in_P (hw _ k_27)
  obtain ⟨c2, i2, h2⟩ := u_known hw in_D (hw _ k_135)
  obtain ⟨c3, i3, h3⟩ := u_known hw in_E (hw _ k_43)
  obtain ⟨c4, i4, h4⟩ := u_known hw in_N (hw _ k_119)
  obtain ⟨c5, i5, h5⟩ := u_known hw in_O (hw _ k_52)
  obtain ⟨c6, i6, h6⟩ := u_known hw in_M (hw _ k_719)
  refine ⟨fun k => match k with | 0 => c0 | 1 => c1 | 2 => c2 | 3 => c3 | 4 => c4 | 5 => c5 | _ => c6, fun k => match k with | 0 => i0 | 1 => i1 | 2 => i2 | 3 => i3 | 4 => i4 | 5 => i5 | _ => i6, ?_, fun k q h => by simp at h⟩
  intro c q hq
  match c, hq with
  | 0, hq => cases hq; exact h0
  | 1, hq => cases hq; exact h1
  | 2, hq => cases hq; exact h2
  | 3, hq => cases hq; exact h3
  | 4, hq => cases hq; exact h4
  | 5, hq => cases hq; exact h5
  | 6, hq => cases hq; exact h6
  | x + 7, hq => simp [classes] at hq
theorem tw_of {b : Nat} {s : State} {A : Nat → Prop} (hts : ∀ w ∈ lw_tbl, w.before #[Value.ref b] s = true) (hfl : ∀ c ∈ flatC (Jvm.Cond.and given_1 narrow_1), c.before #[Value.ref b] s = true) (hA : ∀ a : Nat, a < s.heap.size → ¬ A a) : tw A s s.heap := by
  obtain ⟨a84, -, -, -, e84, -⟩ := Cond.exactly_spec (hfl (Cond.exactly (.string "VotedTriple" 84) "java/lang/String") (by decide +kernel))
  obtain ⟨a91, -, -, -, e91, -⟩ := Cond.exactly_spec (hfl (Cond.exactly (.string "VotedTriple" 91) "java/lang/String") (by decide +kernel))
  obtain ⟨a109, -, -, -, e109, -⟩ := Cond.exactly_spec (hfl (Cond.exactly (.string "VotedTriple" 109) "java/lang/String") (by decide +kernel))
  obtain ⟨a117, -, -, -, e117, -⟩ := Cond.exactly_spec (hfl (Cond.exactly (.string "VotedTriple" 117) "java/lang/String") (by decide +kernel))
  obtain ⟨a126, -, -, -, e126, -⟩ := Cond.exactly_spec (hfl (Cond.exactly (.string "VotedTriple" 126) "java/lang/String") (by decide +kernel))
  exact ⟨tz.of (hts _ (List.mem_append_right _ (List.mem_of_getElem? (i := 420) (by decide +kernel)))) (hfl (Cond.isRef (.static "java/lang/Throwable" "UNASSIGNED_STACK" "[Ljava/lang/StackTraceElement;")) (by decide +kernel)) hA, tz.of (hts _ (List.mem_append_right _ (List.mem_of_getElem? (i := 422) (by decide +kernel)))) (hfl (Cond.isRef (.static "java/lang/Throwable" "SUPPRESSED_SENTINEL" "Ljava/util/List;")) (by decide +kernel)) hA, ⟨a84, vk_R.of (hts _ (List.mem_append_right _ (List.mem_of_getElem? (i := 434) (by decide +kernel)))) e84⟩, ⟨a91, vk_R.of (hts _ (List.mem_append_right _ (List.mem_of_getElem? (i := 470) (by decide +kernel)))) e91⟩, ⟨a109, vk_R.of (hts _ (List.mem_append_right _ (List.mem_of_getElem? (i := 688) (by decide +kernel)))) e109⟩, ⟨a117, vk_R.of (hts _ (List.mem_append_right _ (List.mem_of_getElem? (i := 702) (by decide +kernel)))) e117⟩, ⟨a126, vk_R.of (hts _ (List.mem_append_right _ (List.mem_of_getElem? (i := 716) (by decide +kernel)))) e126⟩⟩
theorem cb_of {b : Nat} {s : State} {A : Nat → Prop} (hts : ∀ w ∈ lw_tbl, w.before #[Value.ref b] s = true) (hfl : ∀ c ∈ flatC (Jvm.Cond.and given_1 narrow_1), c.before #[Value.ref b] s = true) (hA : ∀ a : Nat, a < s.heap.size → ¬ A a) : ∃ t9 : Nat, cb t9 A s s.heap := by
  obtain ⟨t, ht, hT⟩ := va_Tof (args := #[Value.ref b]) (tm := (.static "VotedTriple$Code" "CHECKED_BITS" "[I")) (ty := .int) (N := 5) (f := cbF) (A := A) (by decide) (hfl _ (by decide +kernel)) (va_eqt (z := 5) (hfl (Cond.eq (.length (.static "VotedTriple$Code" "CHECKED_BITS" "[I")) (.int 5)) (by decide +kernel))) (fun j hj => by
    match j, hj with
    | 0, _ => exact va_eqt (z := 2796202) (hfl (Cond.eq (.elem (.static "VotedTriple$Code" "CHECKED_BITS" "[I") (.int 0)) (.int 2796202)) (by decide +kernel))
    | 1, _ => exact va_eqt (z := 838860) (hfl (Cond.eq (.elem (.static "VotedTriple$Code" "CHECKED_BITS" "[I") (.int 1)) (.int 838860)) (by decide +kernel))
    | 2, _ => exact va_eqt (z := 3207408) (hfl (Cond.eq (.elem (.static "VotedTriple$Code" "CHECKED_BITS" "[I") (.int 2)) (.int 3207408)) (by decide +kernel))
    | 3, _ => exact va_eqt (z := 65280) (hfl (Cond.eq (.elem (.static "VotedTriple$Code" "CHECKED_BITS" "[I") (.int 3)) (.int 65280)) (by decide +kernel))
    | 4, _ => exact va_eqt (z := 4128768) (hfl (Cond.eq (.elem (.static "VotedTriple$Code" "CHECKED_BITS" "[I") (.int 4)) (.int 4128768)) (by decide +kernel))
    | x + 5, h => exact absurd h (by omega)) hA
  exact ⟨t, va_Zof (hts _ (List.mem_append_right _ (List.mem_of_getElem? (i := 284) (by decide +kernel)))) (hts _ (List.mem_append_right _ (List.mem_of_getElem? (i := 9) (by decide +kernel)))) ht hA, hT⟩
def z9 : Nat → Int32 := fun _ => 0
def zz9 : Nat → Nat → Int32 := fun _ _ => 0
def zL9 : Nat → Int64 := fun _ => 0
def ga9 (g2 g8 g9 g10 g11 g12 g13 g14 g15 g16 g17 g18 g19 g20 g21 g22 g23 g28 g30 g31 g32 g36 : Nat) : Nat → Nat := fun k => match k with | 2 => g2 | 8 => g8 | 9 => g9 | 10 => g10 | 11 => g11 | 12 => g12 | 13 => g13 | 14 => g14 | 15 => g15 | 16 => g16 | 17 => g17 | 18 => g18 | 19 => g19 | 20 => g20 | 21 => g21 | 22 => g22 | 23 => g23 | 28 => g28 | 30 => g30 | 31 => g31 | 32 => g32 | 36 => g36 | _ => 0
def gc9 (c2 c8 c9 c10 c11 c12 c13 c14 c15 c16 c17 c18 c19 c20 c21 c22 c23 c28 c30 c31 c32 c36 : ClassId) : Nat → ClassId := fun k => match k with | 2 => c2 | 8 => c8 | 9 => c9 | 10 => c10 | 11 => c11 | 12 => c12 | 13 => c13 | 14 => c14 | 15 => c15 | 16 => c16 | 17 => c17 | 18 => c18 | 19 => c19 | 20 => c20 | 21 => c21 | 22 => c22 | 23 => c23 | 28 => c28 | 30 => c30 | 31 => c31 | 32 => c32 | 36 => c36 | _ => c2
theorem z_1 : modF (fun _ => 0) := ⟨⟨0, by decide, rfl⟩, Or.inr ⟨0, by decide, rfl⟩, Or.inr ⟨0, by decide, rfl⟩, ⟨0, by decide, rfl⟩⟩
theorem z_F : f3 zz9 := ⟨z_1, z_1, z_1⟩
theorem z_w (n : Nat) : wdI n z9 := fun _ _ => is16_0
theorem z_g : g3 zz9 := ⟨z_w 8, z_w 8, z_w 8⟩
theorem z_o (n : Nat) (h : 0 < n) : o3 n z9 := fun _ _ => Or.inr ⟨0, h, rfl⟩
theorem z_e : eI z9 z9 z9 := ⟨⟨0, by decide, rfl⟩, Or.inr ⟨0, by decide, rfl⟩, z_w 8, z_w 32⟩
theorem z_c : prI 0 z9 := ⟨by decide, fun j hj => absurd hj (Nat.not_lt_zero j)⟩
theorem z_R : relA z9 zz9 zz9 zz9 0 z9 0 z9 z9 z9 z9 0 z9 0 z9 0 0 0 0 0 0 0 z9 z9 z9 z9 z9 z9 z9 z9 z9 z9 z9 z9 z9 := ⟨⟨rfl, rfl, rfl, rfl, rfl, fun _ => ⟨rfl, rfl⟩⟩, ⟨rfl, rfl, rfl, rfl⟩, ⟨rfl, rfl, rfl, rfl, rfl, rfl⟩, fun i _ => ⟨fun _ _ => rfl, fun _ _ => ⟨rfl, 0, by decide, rfl⟩, rfl, rfl, fun _ => rfl, rfl, rfl, rfl⟩⟩
