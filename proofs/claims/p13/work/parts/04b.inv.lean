/-! numbers of sixteen bits, registers, invariants of a module and of the perfect one -/
def is16 (r : Int32) : Prop := r &&& 65535 = r
theorem is16_nI {r : Int32} (h : is16 r) : ∃ j : Nat, j < 65536 ∧ r = nI j := by
  obtain ⟨j, hj, e⟩ := pk_andE r (m := 65535) 16 rfl
  exact ⟨j, hj, by rw [← e]; exact h.symm⟩
theorem nI_is16 {j : Nat} (h : j < 65536) : is16 (nI j) := by
  unfold is16
  rw [pk_andN (by omega) 16 rfl, Nat.mod_eq_of_lt (by omega)]
theorem is16_m (x : Int32) : is16 (x &&& 65535) := by
  unfold is16
  rw [Int32.and_assoc]
  rfl
theorem is16_and {x c : Int32} (hc : is16 c) : is16 (x &&& c) := by
  unfold is16 at *
  rw [Int32.and_assoc, hc]
theorem is16_or {x y : Int32} (hx : is16 x) (hy : is16 y) : is16 (x ||| y) := by
  unfold is16 at *
  apply Int32.toBitVec_inj.mp
  have h1 : x.toBitVec &&& (65535 : Int32).toBitVec = x.toBitVec := by rw [← Int32.toBitVec_and, hx]
  have h2 : y.toBitVec &&& (65535 : Int32).toBitVec = y.toBitVec := by rw [← Int32.toBitVec_and, hy]
  rw [Int32.toBitVec_and, Int32.toBitVec_or]
  apply BitVec.eq_of_getLsbD_eq
  intro i hi
  have a := congrArg (fun z => z.getLsbD i) h1
  have b := congrArg (fun z => z.getLsbD i) h2
  simp only [BitVec.getLsbD_and, BitVec.getLsbD_or] at a b ⊢
  revert a b
  cases x.toBitVec.getLsbD i <;> cases y.toBitVec.getLsbD i <;> cases (Int32.toBitVec 65535).getLsbD i <;> simp
theorem is16_xor {x y : Int32} (hx : is16 x) (hy : is16 y) : is16 (x ^^^ y) := by
  unfold is16 at *
  apply Int32.toBitVec_inj.mp
  have h1 : x.toBitVec &&& (65535 : Int32).toBitVec = x.toBitVec := by rw [← Int32.toBitVec_and, hx]
  have h2 : y.toBitVec &&& (65535 : Int32).toBitVec = y.toBitVec := by rw [← Int32.toBitVec_and, hy]
  rw [Int32.toBitVec_and, Int32.toBitVec_xor]
  apply BitVec.eq_of_getLsbD_eq
  intro i hi
  have a := congrArg (fun z => z.getLsbD i) h1
  have b := congrArg (fun z => z.getLsbD i) h2
  simp only [BitVec.getLsbD_and, BitVec.getLsbD_xor] at a b ⊢
  revert a b
  cases x.toBitVec.getLsbD i <;> cases y.toBitVec.getLsbD i <;> cases (Int32.toBitVec 65535).getLsbD i <;> simp
theorem is16_0 : is16 0 := rfl
theorem byte_nI (w : Int32) : ∃ j : Nat, j < 256 ∧ w &&& 255 = nI j := pk_andE w (m := 255) 8 rfl
theorem wA_nI (w : Int32) : ∃ j : Nat, j < 256 ∧ wA w = nI j := byte_nI _
theorem wB_nI (w : Int32) : ∃ j : Nat, j < 256 ∧ wB w = nI j := byte_nI _
theorem wC_nI (w : Int32) : ∃ j : Nat, j < 256 ∧ wC w = nI j := byte_nI _
theorem reg_nI {x : Int32} (hx : ∃ j : Nat, j < 256 ∧ x = nI j) (h : isReg x = true) : ∃ j : Nat, j < 8 ∧ x = nI j := by
  obtain ⟨j, hj, e⟩ := hx
  refine ⟨j, Nat.not_le.mp fun h8 => ?_, e⟩
  subst e
  have h9 : (8 : Int32) ≤ nI j := (nI_leI (a := 8) (b := j) (by omega) (by omega)).mpr h8
  simp [isReg, h9] at h
theorem reg_in {x : Int32} (hx : ∃ j : Nat, j < 256 ∧ x = nI j) (h : isReg x = true) : vp_in x 8 := by
  obtain ⟨j, hj, e⟩ := reg_nI hx h
  rw [e]
  exact vp_in_nI hj (by omega)
theorem in_A {w : Int32} (hi : isIn w = true) (h : ush w 24 = 0 ∨ ush w 24 = 7 ∨ ush w 24 = 9 ∨ ush w 24 = 10) : isReg (wA w) = true := by
  simpa [isIn, isInA, h] using hi
theorem in_ABC {w : Int32} (hi : isIn w = true) (h : ush w 24 = 1 ∨ ush w 24 = 2 ∨ ush w 24 = 3 ∨ ush w 24 = 4) : isReg (wA w) = true ∧ isReg (wB w) = true ∧ isReg (wC w) = true := by
  rcases h with h | h | h | h <;> simpa [isIn, isInA, h] using hi
theorem in_AB {w : Int32} (hi : isIn w = true) (h : ush w 24 = 5 ∨ ush w 24 = 6) : isReg (wA w) = true ∧ isReg (wB w) = true := by
  rcases h with h | h <;> simpa [isIn, isInA, h] using hi
/-- eight registers of sixteen bits -/
def rgI (rg : Nat → Int32) : Prop := ∀ j, j < 8 → is16 (rg j)
def wdI (n : Nat) (wd : Nat → Int32) : Prop := ∀ j, j < n → is16 (wd j)
theorem rgI_upd {n : Nat} {rg : Nat → Int32} {k : Nat} {x : Int32} (h : wdI n rg) (hx : is16 x) : wdI n (upd rg k x) := by
  intro j hj
  by_cases e : j = k
  · rw [e, pk_us]; exact hx
  · rw [pk_un e]; exact h j hj
theorem rg_at {n : Nat} {rg : Nat → Int32} {i : Int32} (h : wdI n rg) (hi : vp_in i n) (hn : n < 2 ^ 31) : is16 (rg i.toNatClampNeg) := by
  obtain ⟨j, hj, e⟩ := vp_in_of hi hn
  rw [e, nI_clamp (by omega)]
  exact h j hj
def cntI (x : Int32) : Prop := ∃ k : Nat, k < 256 ∧ x = nI k
def optI (n : Nat) (x : Int32) : Prop := x = -1 ∨ ∃ k : Nat, k < n ∧ x = nI k
def mkI (x : Int32) : Prop := ∃ k : Nat, k ≤ 32 ∧ x = nI k
def modI (F rg : Nat → Int32) : Prop := cntI (F 1) ∧ optI 8 (F 4) ∧ optI 32 (F 5) ∧ mkI (F 9) ∧ wdI 8 rg
/-- the program: its words are instructions -/
def prI (c : Nat) (f : Nat → Int32) : Prop := c ≤ 64 ∧ ∀ j, j < c → isIn (f j) = true
/-- where a word of a register and a byte meet: within 32 words -/
def pl32 (x y : Int32) : Int32 := x + y - (x + y) / 32 * 32
theorem pl32_nI {x y : Int32} (hx : is16 x) (hy : ∃ j : Nat, j < 256 ∧ y = nI j) : ∃ k : Nat, k < 32 ∧ pl32 x y = nI k := by
  obtain ⟨a, ha, rfl⟩ := is16_nI hx
  obtain ⟨b, hb, rfl⟩ := hy
  refine ⟨(a + b) % 32, Nat.mod_lt _ (by decide), ?_⟩
  unfold pl32
  rw [nI_add]
  exact pk_rem (a := a + b) (d := 32) (by omega) (by decide) (by decide)
theorem pl32_in {x y : Int32} (hx : is16 x) (hy : ∃ j : Nat, j < 256 ∧ y = nI j) : vp_in (pl32 x y) 32 := by
  obtain ⟨k, hk, e⟩ := pl32_nI hx hy
  rw [e]
  exact vp_in_nI hk (by decide)
theorem set16 (w : Int32) : is16 (wB w * 256 + wC w) := by
  obtain ⟨a, ha, e1⟩ := wB_nI w
  obtain ⟨b, hb, e2⟩ := wC_nI w
  rw [e1, e2, show (256 : Int32) = nI 256 from rfl, pk_mul, nI_add]
  exact nI_is16 (by omega)
