/-- three of a kind -/
def tri {α : Type} (a b c : α) : Nat → α := fun i => match i with | 0 => a | 1 => b | _ => c
def mo (da : Nat → Nat) : Nat → Option Nat := fun i => some (da i)
def f3 (F : Nat → Nat → Int32) : Prop := modF (F 0) ∧ modF (F 1) ∧ modF (F 2)
def g3 (g : Nat → Nat → Int32) : Prop := wdI 8 (g 0) ∧ wdI 8 (g 1) ∧ wdI 8 (g 2)
def i012 (r : Int32) : Prop := r = -1 ∨ r = 0 ∨ r = 1 ∨ r = 2
def cgB (uT : Nat → Int32) (x : Int32) : Bool := decide (1 < x) || (decide (x = 1) && !decide (uT 7 = 0))
def in3 (x : Int32) : Bool := !decide (x < 0) && !decide (3 ≤ x)
def hmB (uT : Nat → Int32) (x : Int32) : Bool := !decide (uT 5 = 0) && in3 x
theorem in3_c {x : Int32} (h : in3 x = true) : x = 0 ∨ x = 1 ∨ x = 2 := by
  simp [in3] at h
  obtain ⟨a, b⟩ := h
  rw [Int32.le_iff_toInt_le] at a
  rw [Int32.lt_iff_toInt_lt] at b
  have a9 : (0 : Int) ≤ x.toInt := a
  have b9 : x.toInt < (3 : Int) := b
  have h3 : x.toInt = 0 ∨ x.toInt = 1 ∨ x.toInt = 2 := by omega
  rcases h3 with h | h | h
  · exact Or.inl (Int32.toInt_inj.mp h)
  · exact Or.inr (Or.inl (Int32.toInt_inj.mp h))
  · exact Or.inr (Or.inr (Int32.toInt_inj.mp h))
theorem hm_c {uT : Nat → Int32} {x : Int32} (h : ¬ bI (hmB uT x) = 0) : ¬ uT 5 = 0 ∧ (x = 0 ∨ x = 1 ∨ x = 2) := by
  have h9 : hmB uT x = true := by
    cases e : hmB uT x
    · rw [e] at h; exact absurd rfl h
    · rfl
  simp [hmB] at h9
  exact ⟨h9.1, in3_c h9.2⟩
theorem modF_fl {F : Nat → Int32} (h : modF F) : modF (flF F) := flF_ok h
theorem modF_1 {F : Nat → Int32} {x : Int32} (h : modF F) (hx : cntI x) : modF (upc F 1 x) := ⟨hx, h.2.1, h.2.2.1, h.2.2.2⟩
theorem rem_in {x : Int32} {k : Nat} (h : x = nI k) (hk : k < 2 ^ 31) : vp_in (x - x / 32 * 32) 32 := by
  subst h
  have e : nI k - nI k / 32 * 32 = nI (k % 32) := pk_rem (a := k) (d := 32) (by omega) (by decide) (by decide)
  rw [e]
  exact vp_in_nI (Nat.mod_lt _ (by decide)) (by decide)
theorem opt_nI {n : Nat} {x : Int32} (h : optI n x) (hx : ¬ x = -1) : ∃ k : Nat, k < n ∧ x = nI k := by
  rcases h with h | h
  · exact absurd h hx
  · exact h
