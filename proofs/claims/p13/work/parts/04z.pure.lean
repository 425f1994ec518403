/-- the table of the check bits: the static holds a cell t of five numbers, outside of A -/
def cbF : Nat → Value := fun j => match j with | 0 => .int 2796202 | 1 => .int 838860 | 2 => .int 3207408 | 3 => .int 65280 | _ => .int 4128768
def cb (t : Nat) (A : Nat → Prop) (U : State) (H : Heap) : Prop := va_Z "VotedTriple$Code" "CHECKED_BITS" "[I" (.ref t) A U H ∧ va_T .int t 5 cbF A U H
theorem cb_warm {t : Nat} {A : Nat → Prop} {s U : State} {H : Heap} (hW : s.WarmedH U.vm) (h : cb t A s H) : cb t A U H := ⟨h.1.moved hW.alike, h.2.moved hW.alike⟩
theorem cb_vm {t : Nat} {A : Nat → Prop} {u U : State} {H : Heap} (hv : U.vm = u.vm) (h : cb t A u H) : cb t A U H := ⟨h.1.moved (by rw [hv]; exact Vm.Alike.refl _), h.2.moved (by rw [hv]; exact Vm.Alike.refl _)⟩
theorem cb_kept {t : Nat} {A : Nat → Prop} {U : State} {H H1 : Heap} (h : cb t A U H) (hq : ∀ a : Nat, a < H.size → ¬ A a → H1[a]? = H[a]?) : cb t A U H1 := ⟨h.1.kept hq, h.2.kept hq⟩
theorem cb_narrow {t : Nat} {A B : Nat → Prop} {U : State} {H : Heap} (h : cb t A U H) (hAB : ∀ q, B q → A q) : cb t B U H := ⟨h.1.narrow hAB, h.2.narrow hAB⟩

def clW (F : Nat → Int32) : Nat → Int32 := fun j => if j = 2 then 0 else if j = 3 then 0 else F j
def clE (F : Nat → Int32) : Nat → Int32 := fun j => if j = 4 then -1 else if j = 5 then -1 else clW F j

theorem is16_ush {x y : Int32} (hx : is16 x) : is16 (ush x (y &&& 15)) := by
  obtain ⟨j, hj, rfl⟩ := is16_nI hx
  obtain ⟨k, hk, e⟩ := pk_andE y (m := 15) 4 rfl
  rw [e]
  have hs : ∀ k, k < 16 → (((nI k).toUInt32 &&& Int32.toUInt32 31).toBitVec % 32).toNat = k := by decide
  show is16 ((nI j).toUInt32 >>> ((nI k).toUInt32 &&& Int32.toUInt32 31)).toInt32
  rw [pk_ushrN (by omega) (nI k) k (hs k hk)]
  exact nI_is16 (Nat.lt_of_le_of_lt (Nat.div_le_self _ _) hj)
theorem is16_word (c : Int32) : is16 (((((c >>> ((3 : Int32) &&& 31)) &&& 1) ||| ((c >>> ((4 : Int32) &&& 31)) &&& 14)) ||| ((c >>> ((5 : Int32) &&& 31)) &&& 2032)) ||| ((c >>> ((6 : Int32) &&& 31)) &&& 63488)) :=
  is16_or (is16_or (is16_or (is16_and rfl) (is16_and rfl)) (is16_and rfl)) (is16_and rfl)
theorem opt_in {n : Nat} {x : Int32} (h : optI n x) (hx : ¬ x = -1) (hn : n < 2 ^ 31) : vp_in x n := by
  rcases h with h | ⟨k, hk, e⟩
  · exact absurd h hx
  · rw [e]; exact vp_in_nI hk hn
def upc (F : Nat → Int32) (k : Nat) (x : Int32) : Nat → Int32 := fun j => if j = k then x else F j
theorem cntI_1 {x : Int32} (h : cntI x) : ∃ k : Nat, k < 2 ^ 30 ∧ x + 1 = nI k := by
  obtain ⟨k, hk, rfl⟩ := h
  exact ⟨k + 1, by omega, nI_1 k⟩
theorem cntI_0 {x : Int32} (h : cntI x) : ∃ k : Nat, k < 2 ^ 30 ∧ x = nI k := by
  obtain ⟨k, hk, rfl⟩ := h
  exact ⟨k, by omega, rfl⟩
theorem cntI_w {cn : Nat} {x : Int32} (hc : cn ≤ 64) (h : ∃ j : Nat, j < max cn 1 ∧ x = nI j) : cntI x := by
  obtain ⟨j, hj, e⟩ := h
  exact ⟨j, by omega, e⟩

/-- what the invariants ask of the fields is the same -/
def agr (F F2 : Nat → Int32) : Prop := F2 1 = F 1 ∧ F2 4 = F 4 ∧ F2 5 = F 5 ∧ F2 9 = F 9
theorem agr_r (F : Nat → Int32) : agr F F := ⟨rfl, rfl, rfl, rfl⟩
theorem agr_t {F F2 F3 : Nat → Int32} (h : agr F F2) (k : agr F2 F3) : agr F F3 := ⟨k.1.trans h.1, k.2.1.trans h.2.1, k.2.2.1.trans h.2.2.1, k.2.2.2.trans h.2.2.2⟩
theorem modI_agr {F F2 rg : Nat → Int32} (h : modI F rg) (a : agr F F2) : modI F2 rg := by
  obtain ⟨a1, a2, a3, a4⟩ := a
  unfold modI
  rw [a1, a2, a3, a4]
  exact h
theorem modI_set {F rg : Nat → Int32} {k : Nat} {x : Int32} (h : modI F rg) (hx : is16 x) : modI F (upd rg k x) := ⟨h.1, h.2.1, h.2.2.1, h.2.2.2.1, rgI_upd h.2.2.2.2 hx⟩
theorem modI_1 {F rg : Nat → Int32} {x : Int32} (h : modI F rg) (hx : cntI x) : modI (upc F 1 x) rg := ⟨hx, h.2.1, h.2.2.1, h.2.2.2.1, h.2.2.2.2⟩
theorem modI_4 {F rg : Nat → Int32} {x : Int32} (h : modI F rg) (hx : optI 8 x) : modI (upc F 4 x) rg := ⟨h.1, hx, h.2.2.1, h.2.2.2.1, h.2.2.2.2⟩
theorem modI_5 {F rg : Nat → Int32} {x : Int32} (h : modI F rg) (hx : optI 32 x) : modI (upc F 5 x) rg := ⟨h.1, h.2.1, hx, h.2.2.2.1, h.2.2.2.2⟩

def modF (F : Nat → Int32) : Prop := cntI (F 1) ∧ optI 8 (F 4) ∧ optI 32 (F 5) ∧ mkI (F 9)
theorem modI_of {F rg : Nat → Int32} (h : modF F) (g : wdI 8 rg) : modI F rg := ⟨h.1, h.2.1, h.2.2.1, h.2.2.2, g⟩
theorem modI_F {F rg : Nat → Int32} (h : modI F rg) : modF F := ⟨h.1, h.2.1, h.2.2.1, h.2.2.2.1⟩
def trB (F : Nat → Int32) : Bool := decide (F 8 = 0) && decide (F 15 = 0)
def flF (F : Nat → Int32) : Nat → Int32 := upc (upc (clE F) 15 0) 16 0
theorem flF_ok {F : Nat → Int32} (h : modF F) : modF (flF F) := ⟨h.1, Or.inl rfl, Or.inl rfl, h.2.2.2⟩
theorem mkI_0 : mkI 0 := ⟨0, by decide, rfl⟩
theorem lt32 {i : Nat} (h : i < 32) : ¬ (32 : Int32) ≤ nI i := fun h9 => by
  have := (nI_leI (a := 32) (b := i) (by omega) (by omega)).mp h9
  omega

theorem lt_in {i : Int32} {k n : Nat} (h0 : ¬ i < 0) (h1 : ¬ nI k ≤ i) (hk : k ≤ n) (hn : n < 2 ^ 31) : vp_in i n := by
  rw [vp_in_iff]
  rw [Int32.lt_iff_toInt_lt] at h0
  rw [Int32.le_iff_toInt_le, nI_toInt (by omega)] at h1
  simp at h0
  omega
theorem nle_lt {k N : Nat} {x : Int32} (hN : x = nI N) (h : ¬ x ≤ nI k) (hk : k < 2 ^ 31) (hn : N < 2 ^ 31) : k < N := by
  subst hN
  exact Nat.not_le.mp fun h9 => h (nI_le h9 hk)
theorem lt_lt {k N : Nat} {x : Int32} (hN : x = nI N) (h : nI k < x) (hk : k < 2 ^ 31) (hn : N < 2 ^ 31) : k < N := by
  subst hN
  exact (nI_ltI hk hn).mp h
theorem nlt_ge {k N : Nat} {x : Int32} (hN : x = nI N) (h : ¬ nI k < x) (hk : k < 2 ^ 31) (hn : N < 2 ^ 31) : N ≤ k := by
  subst hN
  exact Nat.not_lt.mp fun h9 => h ((nI_ltI hk hn).mpr h9)
theorem le_ge {k N : Nat} {x : Int32} (hN : x = nI N) (h : x ≤ nI k) (hk : k < 2 ^ 31) (hn : N < 2 ^ 31) : N ≤ k := by
  subst hN
  exact (nI_leI hn hk).mp h

def kpB (c x : Int32) : Bool := !decide (x < 0) && (!decide (c ≤ x) && !decide (300 ≤ x))
theorem kpB_in {c x : Int32} (h : kpB c x = true) : vp_in x 300 := by
  simp [kpB] at h
  exact in_of (N := 300) rfl (by simpa using h.1) (by simpa using h.2.2)

def eI (F rg wd : Nat → Int32) : Prop := cntI (F 1) ∧ optI 8 (F 4) ∧ wdI 8 rg ∧ wdI 32 wd
theorem eI_1 {F rg wd : Nat → Int32} {x : Int32} (h : eI F rg wd) (hx : cntI x) : eI (upc F 1 x) rg wd := ⟨hx, h.2.1, h.2.2.1, h.2.2.2⟩
theorem eI_4 {F rg wd : Nat → Int32} {x : Int32} (h : eI F rg wd) (hx : optI 8 x) : eI (upc F 4 x) rg wd := ⟨h.1, hx, h.2.2.1, h.2.2.2⟩
theorem eI_g {F rg wd : Nat → Int32} {k : Nat} {x : Int32} (h : eI F rg wd) (hx : is16 x) : eI F (upd rg k x) wd := ⟨h.1, h.2.1, rgI_upd h.2.2.1 hx, h.2.2.2⟩
theorem eI_w {F rg wd w2 : Nat → Int32} (h : eI F rg wd) (hx : wdI 32 w2) : eI F rg w2 := ⟨h.1, h.2.1, h.2.2.1, hx⟩
theorem eI_a {F F2 rg wd : Nat → Int32} (h : eI F rg wd) (a1 : F2 1 = F 1) (a2 : F2 4 = F 4) : eI F2 rg wd := by
  unfold eI
  rw [a1, a2]
  exact h

theorem eI_cl {F rg wd : Nat → Int32} (h : eI F rg wd) : eI (clE F) rg wd := ⟨h.1, Or.inl rfl, h.2.2.1, h.2.2.2⟩
theorem eI_r {F rg wd g : Nat → Int32} (h : eI F rg wd) (hg : wdI 8 g) : eI F g wd := ⟨h.1, h.2.1, hg, h.2.2.2⟩

/-- three of a kind -/
def tri {α : Type} (a b c : α) : Nat → α := fun i => match i with | 0 => a | 1 => b | _ => c
def mo (da : Nat → Nat) : Nat → Option Nat := fun i => some (da i)
def f3 (F : Nat → Nat → Int32) : Prop := modF (F 0) ∧ modF (F 1) ∧ modF (F 2)
def g3 (g : Nat → Nat → Int32) : Prop := wdI 8 (g 0) ∧ wdI 8 (g 1) ∧ wdI 8 (g 2)
def i012 (r : Int32) : Prop := r = -1 ∨ r = 0 ∨ r = 1 ∨ r = 2
def cgB (uT : Nat → Int32) (x : Int32) : Bool := decide (1 < x) || (decide (x = 1) && !decide (uT 7 = 0))
def in3 (x : Int32) : Bool := !decide (x < 0) && !decide (3 ≤ x)
def hmB (uT : Nat → Int32) (x : Int32) : Bool := !decide (uT 5 = 0) && in3 x
theorem in3_c {x : Int32} (h : in3 x = true) : x = 0 ∨ x = 1 ∨ x = 2 := by
  simp [in3] at h
  obtain ⟨a, b⟩ := h
  rw [Int32.le_iff_toInt_le] at a
  rw [Int32.lt_iff_toInt_lt] at b
  have a9 : (0 : Int) ≤ x.toInt := a
  have b9 : x.toInt < (3 : Int) := b
  have h3 : x.toInt = 0 ∨ x.toInt = 1 ∨ x.toInt = 2 := by omega
  rcases h3 with h | h | h
  · exact Or.inl (Int32.toInt_inj.mp h)
  · exact Or.inr (Or.inl (Int32.toInt_inj.mp h))
  · exact Or.inr (Or.inr (Int32.toInt_inj.mp h))
theorem hm_c {uT : Nat → Int32} {x : Int32} (h : ¬ bI (hmB uT x) = 0) : ¬ uT 5 = 0 ∧ (x = 0 ∨ x = 1 ∨ x = 2) := by
  have h9 : hmB uT x = true := by
    cases e : hmB uT x
    · rw [e] at h; exact absurd rfl h
    · rfl
  simp [hmB] at h9
  exact ⟨h9.1, in3_c h9.2⟩
theorem modF_fl {F : Nat → Int32} (h : modF F) : modF (flF F) := flF_ok h
theorem modF_1 {F : Nat → Int32} {x : Int32} (h : modF F) (hx : cntI x) : modF (upc F 1 x) := ⟨hx, h.2.1, h.2.2.1, h.2.2.2⟩
theorem rem_in {x : Int32} {k : Nat} (h : x = nI k) (hk : k < 2 ^ 31) : vp_in (x - x / 32 * 32) 32 := by
  subst h
  have e : nI k - nI k / 32 * 32 = nI (k % 32) := pk_rem (a := k) (d := 32) (by omega) (by decide) (by decide)
  rw [e]
  exact vp_in_nI (Nat.mod_lt _ (by decide)) (by decide)
theorem opt_nI {n : Nat} {x : Int32} (h : optI n x) (hx : ¬ x = -1) : ∃ k : Nat, k < n ∧ x = nI k := by
  rcases h with h | h
  · exact absurd h hx
  · exact h

theorem trB_0 {F : Nat → Int32} (h : ¬ bI (trB F) = 0) : F 8 = 0 := by
  have h9 : trB F = true := by
    cases e : trB F
    · rw [e] at h; exact absurd rfl h
    · rfl
  simp [trB] at h9
  exact h9.1

theorem mk_in {x : Int32} (h : mkI x) (hx : ¬ 32 ≤ x) : vp_in x 32 := by
  obtain ⟨k, hk, rfl⟩ := h
  refine vp_in_nI (Nat.lt_of_le_of_ne hk (fun e => hx (by rw [e]; decide))) (by decide)
theorem mk_1 {x : Int32} (h : mkI x) (hx : ¬ 32 ≤ x) : mkI (x + 1) := by
  obtain ⟨k, hk, rfl⟩ := h
  exact ⟨k + 1, Nat.lt_of_le_of_ne hk (fun e => hx (by rw [e]; decide)), nI_1 k⟩
theorem modF_9 {F : Nat → Int32} {x : Int32} (h : modF F) (hx : mkI x) : modF (upc F 9 x) := ⟨h.1, h.2.1, h.2.2.1, hx⟩
theorem wdI_cpy {n : Nat} {f g : Nat → Int32} (hf : wdI n f) (hg : wdI n g) : wdI n (va_cpy f g 0 0 n) := by
  intro j hj
  simp only [va_cpy]
  split
  · simpa using hf j hj
  · exact hg j hj

def putB (cn : Nat) (i w : Int32) : Bool := !decide (i < 0) && (!decide (nI cn < i) && (!decide (64 ≤ i) && isIn w))
def pN (b : Bool) (cn : Nat) (i : Int32) : Nat := if b && decide (i = nI cn) then cn + 1 else cn
def pF (b : Bool) (f : Nat → Int32) (i w : Int32) : Nat → Int32 := if b then upd f i.toNatClampNeg w else f
theorem prI_put {cn : Nat} {f : Nat → Int32} {i w : Int32} (h : prI cn f) : prI (pN (putB cn i w) cn i) (pF (putB cn i w) f i w) := by
  cases e : putB cn i w
  · simpa [pN, pF] using h
  · have e2 := e
    simp [putB] at e
    obtain ⟨e0, e1, e3, e4⟩ := e
    obtain ⟨c64, hall⟩ := h
    have hin : vp_in i 64 := in_of (N := 64) rfl (by simpa using e0) (by simpa using e3)
    obtain ⟨k, hk, rfl⟩ := vp_in_of hin (by decide)
    have hk1 : k ≤ cn := Nat.not_lt.mp fun h9 => absurd ((nI_ltI (by omega) (by omega)).mpr h9) (by simpa using e1)
    have hcl : (nI k).toNatClampNeg = k := nI_clamp (by omega)
    simp only [pN, pF, hcl, if_true, Bool.true_and]
    have hj : ∀ j, (j < cn ∨ j = k) → isIn (upd f k w j) = true := by
      intro j hj
      by_cases e9 : j = k
      · rw [e9, pk_us]; exact e4
      · rw [pk_un e9]; exact hall j (by omega)
    by_cases e9 : nI k = nI cn
    · have hkc : k = cn := by
        have := congrArg Int32.toNatClampNeg e9
        rwa [nI_clamp (by omega), nI_clamp (by omega)] at this
      rw [decide_eq_true e9]
      refine ⟨by simp; omega, fun j h9 => hj j (by simp at h9; omega)⟩
    · rw [decide_eq_false e9]
      exact ⟨c64, fun j h9 => hj j (Or.inl (by simpa using h9))⟩
def jmp (x : Int32) : Bool := decide (ush x 24 = 7) || decide (ush x 24 = 8)
def bad (cn : Nat) (x : Int32) : Bool := jmp x && !decide (wB x < nI cn)
def crB (cn : Nat) (f : Nat → Int32) : Bool := decide (0 < cn) && (List.range cn).all (fun j => !bad cn (f j))
theorem crB_f {cn i : Nat} {f : Nat → Int32} (hi : i < cn) (h : bad cn (f i) = true) : (0 : Int32) = bI (crB cn f) := by
  have h9 : crB cn f = false := by
    rw [crB, Bool.and_eq_false_iff]
    right
    rw [List.all_eq_false]
    exact ⟨i, List.mem_range.mpr hi, by rw [h]; decide⟩
  rw [h9]; rfl
theorem crB_t {cn : Nat} {f : Nat → Int32} (h : ∀ j, j < cn → bad cn (f j) = false) : crB cn f = decide (0 < cn) := by
  have h9 : (List.range cn).all (fun j => !bad cn (f j)) = true := by
    rw [List.all_eq_true]
    intro j hj
    rw [h j (List.mem_range.mp hj)]; rfl
  rw [crB, h9, Bool.and_true]
theorem crB_pos {cn : Nat} {f : Nat → Int32} (h : crB cn f = true) : 0 < cn := by
  rw [crB, Bool.and_eq_true] at h
  exact of_decide_eq_true h.1
theorem crB_all {cn : Nat} {f : Nat → Int32} (h : crB cn f = true) : ∀ j, j < cn → bad cn (f j) = false := by
  rw [crB, Bool.and_eq_true, List.all_eq_true] at h
  intro j hj
  have := h.2 j (List.mem_range.mpr hj)
  simpa using this
theorem bad_f {cn : Nat} {x : Int32} (h1 : ¬ ush x 24 = 7) (h2 : ¬ ush x 24 = 8) : bad cn x = false := by simp [bad, jmp, h1, h2]
theorem bad_l {cn : Nat} {x : Int32} (h : wB x < nI cn) : bad cn x = false := by simp [bad, h]
theorem bad_7 {cn : Nat} {x : Int32} (h : ush x 24 = 7) (h2 : ¬ wB x < nI cn) : bad cn x = true := by simp [bad, jmp, h, h2]
theorem bad_8 {cn : Nat} {x : Int32} (h : ush x 24 = 8) (h2 : ¬ wB x < nI cn) : bad cn x = true := by simp [bad, jmp, h, h2]
theorem bad_s {cn i : Nat} {f : Nat → Int32} (h : ∀ j, j < i → bad cn (f j) = false) (h2 : bad cn (f i) = false) : ∀ j, j < i + 1 → bad cn (f j) = false := by
  intro j hj
  rcases Nat.lt_succ_iff_lt_or_eq.mp hj with h9 | h9
  · exact h j h9
  · rw [h9]; exact h2
theorem pos_nI {cn : Nat} (h : cn ≤ 64) (h2 : ¬ nI cn ≤ 0) : 0 < cn := Nat.pos_of_ne_zero fun e => h2 (by rw [e]; decide)
theorem npos_nI {cn : Nat} (h : cn ≤ 64) (h2 : nI cn ≤ 0) : cn = 0 := by
  have := (nI_leI (a := cn) (b := 0) (by omega) (by omega)).mp h2
  omega

def prB (uT : Nat → Int32) (cn : Nat) (i w : Int32) : Bool := decide (uT 5 = 0) && putB cn i w
theorem bI_1 {b : Bool} (h : ¬ bI b = 0) : (1 : Int32) = bI b := by rw [bI_t h]; rfl

theorem n_lt1 {x : Int32} {k : Nat} (h : x = nI k) (h1 : 1 ≤ k) (h2 : k ≤ 2000) : ¬ x < 1 := by
  rw [h]
  exact fun h9 => absurd ((nI_ltI (a := k) (b := 1) (by omega) (by omega)).mp h9) (by omega)
theorem n_le2 {x : Int32} {k : Nat} (h : x = nI k) (h2 : k ≤ 2000) : x ≤ 2000 := by
  rw [h]
  exact (nI_leI (a := k) (b := 2000) (by omega) (by omega)).mpr h2

def inB (uT : Nat → Int32) (kN : Nat) : Bool := !decide (uT 5 = 0) && decide (kN < 64)
def blw (y n : Int32) : Bool := !decide (y < 0) && !decide (n ≤ y)
def hbB (x y z : Int32) : Bool := if x = 0 then blw y 8 && blw z 16 else if x = 1 then blw y 32 && blw z 22 else if x = 2 then decide (y = 0) && blw z 6 else false
theorem below_in {y N : Int32} {n : Nat} (hN : N.toInt = n) (h : blw y N = true) : vp_in y n := by
  simp [blw] at h
  exact in_of (N := N) hN (by simpa using h.1) (by simpa using h.2)
theorem hb_c {x y z : Int32} (h : hbB x y z = true) : (x = 0 ∧ vp_in y 8 ∧ vp_in z 16) ∨ (x = 1 ∧ vp_in y 32 ∧ vp_in z 22) ∨ (x = 2 ∧ y = 0 ∧ vp_in z 6) := by
  unfold hbB at h
  split at h
  · rw [Bool.and_eq_true] at h; exact Or.inl ⟨by assumption, below_in rfl h.1, below_in rfl h.2⟩
  · split at h
    · rw [Bool.and_eq_true] at h; exact Or.inr (Or.inl ⟨by assumption, below_in rfl h.1, below_in rfl h.2⟩)
    · split at h
      · rw [Bool.and_eq_true] at h; exact Or.inr (Or.inr ⟨by assumption, of_decide_eq_true h.1, below_in rfl h.2⟩)
      · exact absurd h (by decide)
theorem hb_out {x y z : Int32} (h : x.toInt < 0 ∨ 2 < x.toInt) : hbB x y z = false := by
  have h0 : ¬ x = 0 := fun e => by subst e; revert h; decide
  have h1 : ¬ x = 1 := fun e => by subst e; revert h; decide
  have h2 : ¬ x = 2 := fun e => by subst e; revert h; decide
  simp [hbB, h0, h1, h2]
theorem sh16 {u : Int32} {n : Nat} (hn : n ≤ 16) (h : vp_in u n) : is16 ((1 : Int32) <<< (u &&& 31)) := by
  obtain ⟨k, hk, rfl⟩ := vp_in_of h (by omega)
  have h9 : ∀ k, k < 16 → is16 ((1 : Int32) <<< (nI k &&& 31)) := by unfold is16; decide
  exact h9 k (by omega)
theorem cnt_xor {x u : Int32} (hx : cntI x) (h : vp_in u 6) : ∃ k : Nat, k < 2 ^ 30 ∧ x ^^^ ((1 : Int32) <<< (u &&& 31)) = nI k := by
  obtain ⟨k, hk, rfl⟩ := hx
  obtain ⟨j, hj, e⟩ := is16_nI (is16_xor (nI_is16 (j := k) (by omega)) (sh16 (n := 6) (by omega) h))
  exact ⟨j, by omega, e⟩

theorem hmT {uT : Nat → Int32} {x : Int32} (h : hmB uT x = true) : ¬ uT 5 = 0 ∧ (x = 0 ∨ x = 1 ∨ x = 2) := hm_c (by rw [h]; decide)

def c3I (n : Nat) (a : Nat → Int32) : Prop := ∀ j, j < 3 → ∃ k : Nat, k < n ∧ a j = nI k
def o3 (n : Nat) (a : Nat → Int32) : Prop := ∀ j, j < 3 → optI n (a j)
def mk3 (a b : Nat → Int32) : Prop := ∀ j, j < 3 → a j = 1 → ∃ k : Nat, k < 32 ∧ b j = nI k
def s3 (a : Nat → Int32) : Prop := a 0 = 0 ∨ a 1 = 0 ∨ a 2 = 0
def z1 (x : Int32) : Int32 := if x = 0 then 1 else 0
def cn3 (a : Nat → Int32) : Int32 := z1 (a 0) + z1 (a 1) + z1 (a 2)
theorem c3_upd {n k : Nat} {a : Nat → Int32} {x : Int32} (h : c3I n a) (hx : ∃ j : Nat, j < n ∧ x = nI j) : c3I n (upd a k x) := by
  intro j hj
  by_cases e : j = k
  · rw [e, pk_us]; exact hx
  · rw [pk_un e]; exact h j hj
theorem o3_upd {n k : Nat} {a : Nat → Int32} {x : Int32} (h : o3 n a) (hx : optI n x) : o3 n (upd a k x) := by
  intro j hj
  by_cases e : j = k
  · rw [e, pk_us]; exact hx
  · rw [pk_un e]; exact h j hj
theorem mi_in {mi : Int32} {mk : Nat} (h : mi = nI mk) (hk : mk < 3) : vp_in mi 3 := by rw [h]; exact vp_in_nI hk (by decide)
theorem mi_cl {mi : Int32} {mk : Nat} (h : mi = nI mk) (hk : mk < 3) : mi.toNatClampNeg = mk := by rw [h]; exact nI_clamp (by omega)
theorem c3_at {n mk : Nat} {a : Nat → Int32} {mi : Int32} (h : c3I n a) (h1 : mi = nI mk) (hk : mk < 3) : ∃ k : Nat, k < n ∧ a mi.toNatClampNeg = nI k := by rw [mi_cl h1 hk]; exact h mk hk
theorem ix8 {mi x : Int32} {mk : Nat} (h : mi = nI mk) (hk : mk < 3) (hx : vp_in x 8) : vp_in ((8 : Int32) * mi + x) 24 := by
  obtain ⟨j, hj, rfl⟩ := vp_in_of hx (by decide)
  rw [h, show (8 : Int32) = nI 8 from rfl, pk_mul, nI_add]
  exact vp_in_nI (by omega) (by decide)
theorem ix32 {mi x : Int32} {mk : Nat} (h : mi = nI mk) (hk : mk < 3) (hx : vp_in x 32) : vp_in ((32 : Int32) * mi + x) 96 := by
  obtain ⟨j, hj, rfl⟩ := vp_in_of hx (by decide)
  rw [h, show (32 : Int32) = nI 32 from rfl, pk_mul, nI_add]
  exact vp_in_nI (by omega) (by decide)
theorem sz0 {cn : Nat} (h : 0 < cn) (h2 : cn ≤ 64) : ¬ nI cn = 0 := fun e => by
  have := congrArg Int32.toNatClampNeg e
  rw [nI_clamp (by omega)] at this
  simp at this
  omega
theorem remc {x : Int32} {k cn : Nat} (h : x = nI k) (hk : k < 2 ^ 30) (h0 : 0 < cn) (h2 : cn ≤ 64) : ∃ j : Nat, j < cn ∧ x - x / nI cn * nI cn = nI j := by
  rw [h]
  exact ⟨k % cn, Nat.mod_lt _ h0, pk_rem (by omega) h0 (by omega)⟩
theorem set16' (w : Int32) : is16 (256 * wB w + wC w) := by
  have h := set16 w
  rwa [Int32.mul_comm] at h
theorem jmp_c {cn : Nat} {x : Int32} (hcn : cn ≤ 64) (h : bad cn x = false) (ho : ush x 24 = 7 ∨ ush x 24 = 8) : ∃ k : Nat, k < cn ∧ wB x = nI k := by
  obtain ⟨k, hk, e⟩ := wB_nI x
  refine ⟨k, ?_, e⟩
  have h9 : wB x < nI cn := by
    rcases ho with ho | ho <;> simpa [bad, jmp, ho] using h
  rw [e] at h9
  exact (nI_ltI (by omega) (by omega)).mp h9
theorem is16_sh {x : Int32} {k : Nat} (hk : k < 16) : is16 ((x &&& 1) <<< (nI k &&& 31)) := by
  obtain ⟨j, hj, e⟩ := pk_andE x (m := 1) 1 rfl
  rw [e]
  have h9 : ∀ j, j < 2 → ∀ k, k < 16 → is16 (nI j <<< (nI k &&& 31)) := by unfold is16; decide
  exact h9 j hj k hk

theorem ush0 (x : Int32) : ush x 0 = x := by
  have h : ((0 : Int32).toUInt32 &&& Int32.toUInt32 31) = 0 := by decide
  simp [ush, h]
theorem in_of2 {i N : Int32} {n : Nat} (hN : N.toInt + 1 = n) (h0 : ¬ i < 0) (h1 : ¬ N < i) : vp_in i n := by
  rw [vp_in_iff]
  rw [Int32.lt_iff_toInt_lt] at h0 h1
  simp at h0
  omega

def idB (b : Int32) : Bool := !decide (b ≤ 2) && (!decide (b = 4) && (!decide (b = 8) && !decide (b = 16)))

theorem op10 {w : Int32} (hi : isIn w = true) (h : (ush w 24).toInt < 0 ∨ 9 < (ush w 24).toInt) : ush w 24 = 10 := by
  rcases sw10 (ush w 24) with h9 | h9 | h9 | h9 | h9 | h9 | h9 | h9 | h9 | h9 | h9 | h9
  all_goals first | exact h9 | (exfalso; rw [h9] at h; revert h; decide) | (exfalso; rw [isIn_out h9] at hi; exact absurd hi (by decide))
theorem mk3_a {a b : Nat → Int32} {k : Nat} {x : Int32} (h : mk3 a b) (hx : ∃ j : Nat, j < 32 ∧ x = nI j) : mk3 a (upd b k x) := by
  intro j hj h1
  by_cases e : j = k
  · rw [e, pk_us]; exact hx
  · rw [pk_un e]; exact h j hj h1
theorem mk3_0 {a b : Nat → Int32} {k : Nat} {x y : Int32} (h : mk3 a b) (hy : ¬ y = 1) : mk3 (upd a k y) (upd b k x) := by
  intro j hj h1
  by_cases e : j = k
  · rw [e, pk_us] at h1; exact absurd h1 hy
  · rw [pk_un e] at h1 ⊢; exact h j hj h1
theorem mk3_n {a b : Nat → Int32} {k : Nat} {y : Int32} (h : mk3 a b) : mk3 (upd a k y) (upd b k 0) := by
  intro j hj h1
  by_cases e : j = k
  · rw [e, pk_us]; exact ⟨0, by decide, rfl⟩
  · rw [pk_un e] at h1 ⊢; exact h j hj h1
theorem s3_0 {a : Nat → Int32} {k : Nat} (h : s3 a) : s3 (upd a k 0) := by
  have h9 : ∀ j, a j = 0 → upd a k 0 j = 0 := by
    intro j hj
    by_cases e : j = k
    · rw [e, pk_us]
    · rw [pk_un e]; exact hj
  rcases h with h | h | h
  · exact Or.inl (h9 0 h)
  · exact Or.inr (Or.inl (h9 1 h))
  · exact Or.inr (Or.inr (h9 2 h))
theorem s3_of {a : Nat → Int32} (h : ¬ cn3 a = 0) : s3 a := by
  by_cases h0 : a 0 = 0
  · exact Or.inl h0
  · by_cases h1 : a 1 = 0
    · exact Or.inr (Or.inl h1)
    · by_cases h2 : a 2 = 0
      · exact Or.inr (Or.inr h2)
      · exact absurd (by simp [cn3, z1, h0, h1, h2]) h
theorem s3_1 {a : Nat → Int32} (h : 1 < cn3 a) : s3 a := s3_of fun e => by rw [e] at h; exact absurd h (by decide)
theorem s3_2 {a : Nat → Int32} (h : cn3 a = 1) : s3 a := s3_of fun e => by rw [e] at h; exact absurd h (by decide)
def tb1 (a b : Nat → Int32) (j : Nat) : Int32 := if a j = 0 ∧ b j = 0 then 1 else 0
def ts (a b : Nat → Int32) : Nat → Int32
  | 0 => 0
  | k + 1 => ts a b k + tb1 a b k
theorem ts_0 {a b : Nat → Int32} {k : Nat} {x : Int32} (h : x = ts a b k) (h1 : ¬ (a k = 0 ∧ b k = 0)) : x + 0 = ts a b (k + 1) := by
  rw [h]; simp [ts, tb1, h1]
theorem ts_0' {a b : Nat → Int32} {k : Nat} {x : Int32} (h : x = ts a b k) (h1 : ¬ (a k = 0 ∧ b k = 0)) : x = ts a b (k + 1) := by
  rw [h]; simp [ts, tb1, h1]
theorem ts_1 {a b : Nat → Int32} {k : Nat} {x : Int32} (h : x = ts a b k) (h1 : a k = 0 ∧ b k = 0) : x + 1 = ts a b (k + 1) := by
  rw [h]; simp [ts, tb1, h1]

def mrB (uM : Nat → Int32) (cn : Nat) (i w : Int32) : Bool := decide (uM 3 = 0) && putB cn i w
theorem i63 {i : Int32} : (64 ≤ i) = (63 < i) := by
  rw [Int32.le_iff_toInt_le, Int32.lt_iff_toInt_lt]
  exact propext ⟨fun h => by have : (64 : Int) ≤ i.toInt := h; show (63 : Int) < i.toInt; omega, fun h => by have : (63 : Int) < i.toInt := h; show (64 : Int) ≤ i.toInt; omega⟩

theorem mk_lt {x : Int32} {k : Nat} (e : x = nI k) (h : ¬ 32 ≤ x + 1) (hk : k < 32) : ∃ j : Nat, j < 32 ∧ x + 1 = nI j := by
  rw [e, nI_1] at h ⊢
  exact ⟨k + 1, Nat.lt_of_le_of_ne hk (fun e9 => h (by rw [e9]; decide)), rfl⟩

theorem i_nI {r : Int32} (h : i012 r) (h1 : ¬ r = -1) : ∃ k : Nat, k < 3 ∧ r = nI k := by
  rcases h with h | h | h | h
  · exact absurd h h1
  · exact ⟨0, by decide, h⟩
  · exact ⟨1, by decide, h⟩
  · exact ⟨2, by decide, h⟩
theorem z_upd {a : Nat → Int32} {k : Nat} (h : ∀ j, j < k → a j = 0) : ∀ j, j < k + 1 → upd a k 0 j = 0 := by
  intro j hj
  by_cases e : j = k
  · rw [e, pk_us]
  · rw [pk_un e]; exact h j (by omega)
theorem mk3_z {a b : Nat → Int32} (h : ∀ j, j < 3 → a j = 0) : mk3 a b := fun j hj h1 => by
  rw [h j hj] at h1
  exact absurd h1 (by decide)
theorem c3_z {n : Nat} {a : Nat → Int32} (hn : 0 < n) (h : ∀ j, j < 3 → a j = 0) : c3I n a := fun j hj => ⟨0, hn, h j hj⟩
theorem in3_nI {x : Int32} (h : ¬ bI (in3 x) = 0) : ∃ k : Nat, k < 3 ∧ x = nI k := by
  rcases in3_c (bI_t h) with h | h | h
  · exact ⟨0, by decide, h⟩
  · exact ⟨1, by decide, h⟩
  · exact ⟨2, by decide, h⟩
theorem sw3 {a : Nat → Int32} {k : Nat} (hk : k < 3) (h : ¬ cn3 a - z1 (a k) = 0) : s3 (upd a k 1) := by
  have hj : ∀ j, j < 3 → ¬ j = k → a j = 0 → s3 (upd a k 1) := by
    intro j hj hjk h0
    have h9 : upd a k 1 j = 0 := by rw [pk_un hjk]; exact h0
    match j, hj, h9 with
    | 0, _, h9 => exact Or.inl h9
    | 1, _, h9 => exact Or.inr (Or.inl h9)
    | 2, _, h9 => exact Or.inr (Or.inr h9)
  match k, hk with
  | 0, _ =>
    by_cases h1 : a 1 = 0
    · exact hj 1 (by decide) (by decide) h1
    · by_cases h2 : a 2 = 0
      · exact hj 2 (by decide) (by decide) h2
      · exact absurd (by simp [cn3, z1, h1, h2]) h
  | 1, _ =>
    by_cases h1 : a 0 = 0
    · exact hj 0 (by decide) (by decide) h1
    · by_cases h2 : a 2 = 0
      · exact hj 2 (by decide) (by decide) h2
      · exact absurd (by simp [cn3, z1, h1, h2]) h
  | 2, _ =>
    by_cases h1 : a 0 = 0
    · exact hj 0 (by decide) (by decide) h1
    · by_cases h2 : a 1 = 0
      · exact hj 1 (by decide) (by decide) h2
      · exact absurd (by simp [cn3, z1, h1, h2]) h
theorem sw3_a {a : Nat → Int32} {k : Nat} (hk : k < 3) (h0 : a k = 0) (h : ¬ cn3 a - 1 = 0) : s3 (upd a k 1) := sw3 hk (by rw [z1, if_pos h0]; exact h)
theorem sw3_b {a : Nat → Int32} {k : Nat} (hk : k < 3) (h0 : ¬ a k = 0) (h : ¬ cn3 a - 0 = 0) : s3 (upd a k 1) := sw3 hk (by rw [z1, if_neg h0]; exact h)

def niB (uM : Nat → Int32) (cm : Nat) : Bool := !decide (uM 3 = 0) && decide (cm < 64)
def mmB (uM : Nat → Int32) (x : Int32) : Bool := !decide (uM 3 = 0) && in3 x
theorem cm_lt {cm : Nat} (h : cm ≤ 64) (h2 : ¬ nI cm = 64) : cm < 64 := Nat.lt_of_le_of_ne h fun e => h2 (by rw [e]; rfl)
theorem cm_64 {cm : Nat} (h : cm ≤ 64) (h2 : nI cm = 64) : ¬ cm < 64 := fun h9 => by
  have := congrArg Int32.toNatClampNeg h2
  rw [nI_clamp (by omega)] at this
  have e : Int32.toNatClampNeg 64 = 64 := by decide
  rw [e] at this
  omega

theorem in3_in {x : Int32} (h : ¬ bI (in3 x) = 0) : vp_in x 3 := by
  obtain ⟨k, hk, e⟩ := in3_nI h
  rw [e]
  exact vp_in_nI hk (by decide)

theorem P_mo {D : va_G} {cl : List vw_C} {ws : va_W} {H : Heap} (hP : va_P D cl ws H) (k : Nat) {a : Nat} {c : ClassId} {f g : Nat → Option Nat} (hk : ws[k]? = some (a, .inl (c, 3, .inr (.inr (.inr (.inr f)))))) (h : ∀ j, j < 3 → f j = g j) : va_P D cl (ws.set k (a, .inl (c, 3, .inr (.inr (.inr (.inr g)))))) H := by
  intro i q hi
  have hlt : k < ws.length := (List.getElem?_eq_some_iff.mp hk).1
  by_cases e : i = k
  · subst e
    rw [List.getElem?_set_self hlt] at hi
    cases hi
    have h9 := hP i _ hk
    show H[a]? = some (vp_cell c (3, .inr (.inr (.inr (.inr g)))))
    have e9 : vp_cell c (3, .inr (.inr (.inr (.inr g)))) = vp_cell c (3, .inr (.inr (.inr (.inr f)))) := by
      show arrV c 3 (fun j => va_rf (g j)) = arrV c 3 (fun j => va_rf (f j))
      have h0 := h 0 (by decide)
      have h1 := h 1 (by decide)
      have h2 := h 2 (by decide)
      unfold arrV
      simp
      congr 1
      funext j
      rw [h j.1 j.2]
    rw [e9]
    exact h9
  · rw [List.getElem?_set_ne (Ne.symm e)] at hi
    exact hP i q hi
