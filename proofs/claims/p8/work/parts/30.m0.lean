def c3I (n : Nat) (a : Nat → Int32) : Prop := ∀ j, j < 3 → ∃ k : Nat, k < n ∧ a j = nI k
def o3 (n : Nat) (a : Nat → Int32) : Prop := ∀ j, j < 3 → optI n (a j)
def mk3 (a b : Nat → Int32) : Prop := ∀ j, j < 3 → a j = 1 → ∃ k : Nat, k < 32 ∧ b j = nI k
def s3 (a : Nat → Int32) : Prop := a 0 = 0 ∨ a 1 = 0 ∨ a 2 = 0
def z1 (x : Int32) : Int32 := if x = 0 then 1 else 0
def cn3 (a : Nat → Int32) : Int32 := z1 (a 0) + z1 (a 1) + z1 (a 2)
theorem c3_upd {n k : Nat} {a : Nat → Int32} {x : Int32} (h : c3I n a) (hx : ∃ j : Nat, j < n ∧ x = nI j) : c3I n (upd a k x) := by
  intro j hj
  by_cases e : j = k
  · rw [e, pk_us]; exact hx
  · rw [pk_un e]; exact h j hj
theorem o3_upd {n k : Nat} {a : Nat → Int32} {x : Int32} (h : o3 n a) (hx : optI n x) : o3 n (upd a k x) := by
  intro j hj
  by_cases e : j = k
  · rw [e, pk_us]; exact hx
  · rw [pk_un e]; exact h j hj
theorem mi_in {mi : Int32} {mk : Nat} (h : mi = nI mk) (hk : mk < 3) : vp_in mi 3 := by rw [h]; exact vp_in_nI hk (by decide)
theorem mi_cl {mi : Int32} {mk : Nat} (h : mi = nI mk) (hk : mk < 3) : mi.toNatClampNeg = mk := by rw [h]; exact nI_clamp (by omega)
theorem c3_at {n mk : Nat} {a : Nat → Int32} {mi : Int32} (h : c3I n a) (h1 : mi = nI mk) (hk : mk < 3) : ∃ k : Nat, k < n ∧ a mi.toNatClampNeg = nI k := by rw [mi_cl h1 hk]; exact h mk hk
theorem ix8 {mi x : Int32} {mk : Nat} (h : mi = nI mk) (hk : mk < 3) (hx : vp_in x 8) : vp_in ((8 : Int32) * mi + x) 24 := by
  obtain ⟨j, hj, rfl⟩ := vp_in_of hx (by decide)
  rw [h, show (8 : Int32) = nI 8 from rfl, pk_mul, nI_add]
  exact vp_in_nI (by omega) (by decide)
theorem ix32 {mi x : Int32} {mk : Nat} (h : mi = nI mk) (hk : mk < 3) (hx : vp_in x 32) : vp_in ((32 : Int32) * mi + x) 96 := by
  obtain ⟨j, hj, rfl⟩ := vp_in_of hx (by decide)
  rw [h, show (32 : Int32) = nI 32 from rfl, pk_mul, nI_add]
  exact vp_in_nI (by omega) (by decide)
theorem sz0 {cn : Nat} (h : 0 < cn) (h2 : cn ≤ 64) : ¬ nI cn = 0 := fun e => by
  have := congrArg Int32.toNatClampNeg e
  rw [nI_clamp (by omega)] at this
  simp at this
  omega
theorem remc {x : Int32} {k cn : Nat} (h : x = nI k) (hk : k < 2 ^ 30) (h0 : 0 < cn) (h2 : cn ≤ 64) : ∃ j : Nat, j < cn ∧ x - x / nI cn * nI cn = nI j := by
  rw [h]
  exact ⟨k % cn, Nat.mod_lt _ h0, pk_rem (by omega) h0 (by omega)⟩
theorem set16' (w : Int32) : is16 (256 * wB w + wC w) := by
  have h := set16 w
  rwa [Int32.mul_comm] at h
theorem jmp_c {cn : Nat} {x : Int32} (hcn : cn ≤ 64) (h : bad cn x = false) (ho : ush x 24 = 7 ∨ ush x 24 = 8) : ∃ k : Nat, k < cn ∧ wB x = nI k := by
  obtain ⟨k, hk, e⟩ := wB_nI x
  refine ⟨k, ?_, e⟩
  have h9 : wB x < nI cn := by
    rcases ho with ho | ho <;> simpa [bad, jmp, ho] using h
  rw [e] at h9
  exact (nI_ltI (by omega) (by omega)).mp h9
theorem is16_sh {x : Int32} {k : Nat} (hk : k < 16) : is16 ((x &&& 1) <<< (nI k &&& 31)) := by
  obtain ⟨j, hj, e⟩ := pk_andE x (m := 1) 1 rfl
  rw [e]
  have h9 : ∀ j, j < 2 → ∀ k, k < 16 → is16 (nI j <<< (nI k &&& 31)) := by unfold is16; decide
  exact h9 j hj k hk
