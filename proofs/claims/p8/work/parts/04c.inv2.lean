theorem is16_ush {x y : Int32} (hx : is16 x) : is16 (ush x (y &&& 15)) := by
  obtain ⟨j, hj, rfl⟩ := is16_nI hx
  obtain ⟨k, hk, e⟩ := pk_andE y (m := 15) 4 rfl
  rw [e]
  have hs : ∀ k, k < 16 → (((nI k).toUInt32 &&& Int32.toUInt32 31).toBitVec % 32).toNat = k := by decide
  show is16 ((nI j).toUInt32 >>> ((nI k).toUInt32 &&& Int32.toUInt32 31)).toInt32
  rw [pk_ushrN (by omega) (nI k) k (hs k hk)]
  exact nI_is16 (Nat.lt_of_le_of_lt (Nat.div_le_self _ _) hj)
theorem is16_word (c : Int32) : is16 (((((c >>> ((3 : Int32) &&& 31)) &&& 1) ||| ((c >>> ((4 : Int32) &&& 31)) &&& 14)) ||| ((c >>> ((5 : Int32) &&& 31)) &&& 2032)) ||| ((c >>> ((6 : Int32) &&& 31)) &&& 63488)) :=
  is16_or (is16_or (is16_or (is16_and rfl) (is16_and rfl)) (is16_and rfl)) (is16_and rfl)
theorem opt_in {n : Nat} {x : Int32} (h : optI n x) (hx : ¬ x = -1) (hn : n < 2 ^ 31) : vp_in x n := by
  rcases h with h | ⟨k, hk, e⟩
  · exact absurd h hx
  · rw [e]; exact vp_in_nI hk hn
def upc (F : Nat → Int32) (k : Nat) (x : Int32) : Nat → Int32 := fun j => if j = k then x else F j
theorem cntI_1 {x : Int32} (h : cntI x) : ∃ k : Nat, k < 2 ^ 30 ∧ x + 1 = nI k := by
  obtain ⟨k, hk, rfl⟩ := h
  exact ⟨k + 1, by omega, nI_1 k⟩
theorem cntI_0 {x : Int32} (h : cntI x) : ∃ k : Nat, k < 2 ^ 30 ∧ x = nI k := by
  obtain ⟨k, hk, rfl⟩ := h
  exact ⟨k, by omega, rfl⟩
theorem cntI_w {cn : Nat} {x : Int32} (hc : cn ≤ 64) (h : ∃ j : Nat, j < max cn 1 ∧ x = nI j) : cntI x := by
  obtain ⟨j, hj, e⟩ := h
  exact ⟨j, by omega, e⟩
