theorem i_nI {r : Int32} (h : i012 r) (h1 : ¬ r = -1) : ∃ k : Nat, k < 3 ∧ r = nI k := by
  rcases h with h | h | h | h
  · exact absurd h h1
  · exact ⟨0, by decide, h⟩
  · exact ⟨1, by decide, h⟩
  · exact ⟨2, by decide, h⟩
theorem z_upd {a : Nat → Int32} {k : Nat} (h : ∀ j, j < k → a j = 0) : ∀ j, j < k + 1 → upd a k 0 j = 0 := by
  intro j hj
  by_cases e : j = k
  · rw [e, pk_us]
  · rw [pk_un e]; exact h j (by omega)
theorem mk3_z {a b : Nat → Int32} (h : ∀ j, j < 3 → a j = 0) : mk3 a b := fun j hj h1 => by
  rw [h j hj] at h1
  exact absurd h1 (by decide)
theorem c3_z {n : Nat} {a : Nat → Int32} (hn : 0 < n) (h : ∀ j, j < 3 → a j = 0) : c3I n a := fun j hj => ⟨0, hn, h j hj⟩
theorem in3_nI {x : Int32} (h : ¬ bI (in3 x) = 0) : ∃ k : Nat, k < 3 ∧ x = nI k := by
  rcases in3_c (bI_t h) with h | h | h
  · exact ⟨0, by decide, h⟩
  · exact ⟨1, by decide, h⟩
  · exact ⟨2, by decide, h⟩
theorem sw3 {a : Nat → Int32} {k : Nat} (hk : k < 3) (h : ¬ cn3 a - z1 (a k) = 0) : s3 (upd a k 1) := by
  have hj : ∀ j, j < 3 → ¬ j = k → a j = 0 → s3 (upd a k 1) := by
    intro j hj hjk h0
    have h9 : upd a k 1 j = 0 := by rw [pk_un hjk]; exact h0
    match j, hj, h9 with
    | 0, _, h9 => exact Or.inl h9
    | 1, _, h9 => exact Or.inr (Or.inl h9)
    | 2, _, h9 => exact Or.inr (Or.inr h9)
  match k, hk with
  | 0, _ =>
    by_cases h1 : a 1 = 0
    · exact hj 1 (by decide) (by decide) h1
    · by_cases h2 : a 2 = 0
      · exact hj 2 (by decide) (by decide) h2
      · exact absurd (by simp [cn3, z1, h1, h2]) h
  | 1, _ =>
    by_cases h1 : a 0 = 0
    · exact hj 0 (by decide) (by decide) h1
    · by_cases h2 : a 2 = 0
      · exact hj 2 (by decide) (by decide) h2
      · exact absurd (by simp [cn3, z1, h1, h2]) h
  | 2, _ =>
    by_cases h1 : a 0 = 0
    · exact hj 0 (by decide) (by decide) h1
    · by_cases h2 : a 1 = 0
      · exact hj 1 (by decide) (by decide) h2
      · exact absurd (by simp [cn3, z1, h1, h2]) h
theorem sw3_a {a : Nat → Int32} {k : Nat} (hk : k < 3) (h0 : a k = 0) (h : ¬ cn3 a - 1 = 0) : s3 (upd a k 1) := sw3 hk (by rw [z1, if_pos h0]; exact h)
theorem sw3_b {a : Nat → Int32} {k : Nat} (hk : k < 3) (h0 : ¬ a k = 0) (h : ¬ cn3 a - 0 = 0) : s3 (upd a k 1) := sw3 hk (by rw [z1, if_neg h0]; exact h)
