/-! reading a code: both put right, and find spoilt, the same -/
theorem upd_self (f : Nat → Int32) (k : Nat) : upd f k (f k) = f := by
  funext j
  unfold upd
  split
  · rename_i h; rw [h]
  · rfl
theorem upd_eq {f : Nat → Int32} {k : Nat} {x : Int32} (h : f k = x) : upd f k x = f := by rw [← h]; exact upd_self f k
theorem ad32 {i w : Nat} (hi : i < 3) (hw : w < 32) : Int32.toNatClampNeg (((32 : Int32) * nI i) + nI w) = 32 * i + w := by
  rw [show (32 : Int32) = nI 32 from rfl, pk_mul, nI_add]
  exact nI_clamp (by omega)
theorem ad8 {i w : Nat} (hi : i < 3) (hw : w < 8) : Int32.toNatClampNeg (((8 : Int32) * nI i) + nI w) = 8 * i + w := by
  rw [show (8 : Int32) = nI 8 from rfl, pk_mul, nI_add]
  exact nI_clamp (by omega)
theorem cl3 {i : Nat} (hi : i < 3) : Int32.toNatClampNeg (nI i) = i := nI_clamp (by omega)
theorem nI_inj {a b : Nat} (ha : a < 2 ^ 31) (hb : b < 2 ^ 31) (h : nI a = nI b) : a = b := by
  have := congrArg Int32.toNatClampNeg h
  rwa [nI_clamp ha, nI_clamp hb] at this
theorem sm_le (n : Nat) : ∀ k i, sm n i k ≤ k := by
  intro k
  induction k with
  | zero => intro i; exact Nat.le_refl _
  | succ k ih =>
    intro i
    have h1 := ih (i + 1)
    have h2 : n / 2 ^ i % 2 < 2 := Nat.mod_lt _ (by decide)
    rw [sm]
    omega
theorem fix_nI {n X : Nat} (hn : n < 2 ^ 22) (hX : X < 22) : nI n ^^^ ((1 : Int32) <<< (nI X &&& 31)) = nI (n ^^^ 2 ^ X) ∧ n ^^^ 2 ^ X < 2 ^ 22 := by
  have h2 : 2 ^ X < 2 ^ 22 := Nat.pow_lt_pow_right (by decide) hX
  refine ⟨?_, Nat.xor_lt_two_pow hn h2⟩
  have e : (1 : Int32) <<< (nI X &&& 31) = nI (1 * 2 ^ X) := shl_nI (n := 1) (by omega) (by omega)
  rw [e, Nat.one_mul, nI_xor]
theorem rd_eq {n w i : Nat} {F cd a9 a16 : Nat → Int32} (hn : n < 2 ^ 22) (hw : w < 32) (hi : i < 3) (hc : cd w = nI n) (ha : a9 (32 * i + w) = nI n) : ∃ r p n' A, (r = 0 ∨ r = 1) ∧ n' < 2 ^ 22 ∧ s_D_findsSpoilt F cd (nI w) = (r, p, upd cd w (nI n')) ∧ s_M_read a9 a16 (nI i) (nI w) = ((if r = 0 then s_K_wordOf (nI n') else 0), upd a9 (32 * i + w) (nI n'), A, r) := by
  have hs : sm n 0 22 ≤ 22 := sm_le n 22 0
  have hp : pz n 21 1 0 < 2 ^ 5 := pz_lt n
  have e1 : nI (sm n 0 22) &&& 1 = nI (sm n 0 22 % 2) := and1_nI (by omega)
  have e2 : nI (sm n 0 22) - nI (sm n 0 22) / 2 * 2 = nI (sm n 0 22 % 2) := pk_rem (a := sm n 0 22) (d := 2) (by omega) (by decide) (by decide)
  unfold s_D_findsSpoilt s_M_read bnd
  dsimp only
  rw [ad32 hi hw, nI_clamp (show w < 2 ^ 31 by omega), cl3 hi, hc, ha, xo_pos hn, pos_pz hn, bit_sm hn, ones_sm hn, e1, e2]
  have hm : sm n 0 22 % 2 = 0 ∨ sm n 0 22 % 2 = 1 := by omega
  generalize sm n 0 22 % 2 = q at *
  generalize pz n 21 1 0 = X at *
  rcases hm with rfl | rfl
  · rw [if_pos (show nI 0 = 0 from rfl), if_pos (show nI 0 = 0 from rfl)]
    by_cases h0 : nI X = 0
    · rw [if_pos h0, if_pos h0, if_neg (show ¬ nI 0 = 1 by decide), dec_eq hn]
      exact ⟨0, F 13, n, a16, Or.inl rfl, hn, by rw [upd_eq hc], by rw [upd_eq ha]; rfl⟩
    · rw [if_neg h0, if_neg h0]
      exact ⟨1, F 13, n, a16, Or.inr rfl, hn, by rw [upd_eq hc], by rw [upd_eq ha]; rfl⟩
  · rw [if_neg (show ¬ nI 1 = 0 by decide), if_neg (show ¬ nI 1 = 0 by decide)]
    by_cases h0 : nI X < 22
    · have hX : X < 22 := (nI_ltI (a := X) (b := 22) (by omega) (by omega)).mp h0
      obtain ⟨f1, f2⟩ := fix_nI hn hX
      rw [if_pos h0, if_pos h0, if_pos (show nI 1 = 1 from rfl), f1, dec_eq f2]
      exact ⟨0, _, n ^^^ 2 ^ X, _, Or.inl rfl, f2, rfl, rfl⟩
    · rw [if_neg h0, if_neg h0]
      exact ⟨1, F 13, n, a16, Or.inr rfl, hn, by rw [upd_eq hc], by rw [upd_eq ha]; rfl⟩
/-- the code of a word has 22 bits -/
theorem enc5_nI {c X k : Nat} (hc : c < 2 ^ 22) (hX : X < 2 ^ 5) (hk : k < 5) : ∃ d, d < 2 ^ 22 ∧ nI c ||| (((nI X >>> ((nI k) &&& 31)) &&& (1 : Int32)) <<< (((1 : Int32) <<< ((nI k) &&& 31)) &&& 31)) = nI d := by
  have h9 : X / 2 ^ k < 2 ^ 32 := Nat.lt_of_le_of_lt (Nat.div_le_self _ _) (by omega)
  rw [shr_nI (by omega) (by omega), and1_nI h9, bit_div]
  have L : ∀ b : Bool, ∀ k, k < 5 → nI b.toNat <<< (((1 : Int32) <<< (nI k &&& 31)) &&& 31) = nI (b.toNat * 2 ^ (2 ^ k)) := by decide
  have M : ∀ b : Bool, ∀ k, k < 5 → b.toNat * 2 ^ (2 ^ k) < 2 ^ 22 := by decide
  rw [L _ k hk, nI_or]
  exact ⟨_, Nat.or_lt_two_pow hc (M _ k hk), rfl⟩
theorem encL_nI {X : Nat} (hX : X < 2 ^ 5) : ∀ m k c, k + m = 5 → c < 2 ^ 22 → ∃ d, d < 2 ^ 22 ∧ s_M_encode_loop49 m k (nI c) (nI X) = nI d := by
  intro m
  induction m with
  | zero =>
    intro k c _ hc
    rw [s_M_encode_loop49, bnd_eq, ones_sm hc, and1_nI (by have := sm_le c 22 0; omega), nI_or]
    refine ⟨_, Nat.or_lt_two_pow hc ?_, rfl⟩
    have : sm c 0 22 % 2 < 2 := Nat.mod_lt _ (by decide)
    omega
  | succ m ih =>
    intro k c hk hc
    obtain ⟨d, hd, e⟩ := enc5_nI (k := k) hc hX (by omega)
    rw [s_M_encode_loop49, e]
    exact ih (k + 1) d (by omega) hd
theorem enc_nI {n : Nat} (hn : n < 2 ^ 31) : ∃ c, c < 2 ^ 22 ∧ s_M_encode (nI n) = nI c := by
  rw [enc_loop hn, ← md_en, pos_pz (md_lt n), bnd_eq]
  exact encL_nI (pz_lt _) 5 0 _ rfl (md_lt n)
/-! one instruction of one module -/
def cd22 (x : Int32) : Prop := ∃ n, n < 2 ^ 22 ∧ x = nI n
def rg1 (i : Nat) (g a8 : Nat → Int32) : Prop := ∀ k, k < 8 → g k = a8 (8 * i + k)
def rv1 (i : Nat) (v a9 : Nat → Int32) : Prop := ∀ w, w < 32 → v w = a9 (32 * i + w) ∧ cd22 (v w)
/-- outside the n places of module i the arrays are alike -/
def fr (n i : Nat) (a b : Nat → Int32) : Prop := ∀ j, j < n * i ∨ n * i + n ≤ j → b j = a j
def wr (w x a : Int32) : Prop := (w = 0 ∧ x = 0 ∧ a = -1) ∨ (w = 1 ∧ x = 0 ∧ a = -2) ∨ (w = 2 ∧ is16 x ∧ a = x)
theorem fr_r (n i : Nat) (a : Nat → Int32) : fr n i a a := fun _ _ => rfl
theorem fr_t {n i : Nat} {a b c : Nat → Int32} (h : fr n i a b) (k : fr n i b c) : fr n i a c := fun j hj => (k j hj).trans (h j hj)
theorem fr_u {n i p : Nat} (a : Nat → Int32) (x : Int32) (h1 : n * i ≤ p) (h2 : p < n * i + n) : fr n i a (upd a p x) := fun j hj => pk_un (by omega)
theorem fr_1 (i : Nat) (a : Nat → Int32) (x : Int32) : fr 1 i a (upd a i x) := fr_u a x (by omega) (by omega)
theorem rg1_u {i k : Nat} {g a8 : Nat → Int32} (x : Int32) (h : rg1 i g a8) (hk : k < 8) : rg1 i (upd g k x) (upd a8 (8 * i + k) x) := by
  intro j hj
  by_cases e : j = k
  · rw [e, pk_us, pk_us]
  · rw [pk_un e, pk_un (by omega)]; exact h j hj
theorem rv1_u {i k : Nat} {v a9 : Nat → Int32} {x : Int32} (h : rv1 i v a9) (hk : k < 32) (hx : cd22 x) : rv1 i (upd v k x) (upd a9 (32 * i + k) x) := by
  intro j hj
  by_cases e : j = k
  · rw [e, pk_us, pk_us]; exact ⟨rfl, hx⟩
  · rw [pk_un e, pk_un (by omega)]; exact h j hj
theorem rg1_f {i j : Nat} {g a b : Nat → Int32} (h : rg1 j g a) (hf : fr 8 i a b) (hj : ¬ j = i) : rg1 j g b := fun k hk => by
  rw [hf _ (by omega)]; exact h k hk
theorem rv1_f {i j : Nat} {v a b : Nat → Int32} (h : rv1 j v a) (hf : fr 32 i a b) (hj : ¬ j = i) : rv1 j v b := fun k hk => by
  rw [hf _ (by omega)]; exact h k hk
theorem fr1_n {i j : Nat} {a b : Nat → Int32} (hf : fr 1 i a b) (hj : ¬ j = i) : b j = a j := hf _ (by omega)
theorem upd2 (f : Nat → Int32) (k : Nat) (x y : Int32) : upd (upd f k x) k y = upd f k y := by
  funext j
  unfold upd
  split <;> rfl
theorem upc2 (f : Nat → Int32) (k : Nat) (x y : Int32) : upc (upc f k x) k y = upc f k y := by
  funext j
  unfold upc
  split <;> rfl
theorem wrap_eq {cn : Nat} {x : Int32} (h0 : 0 < cn) (h1 : cn ≤ 64) : s_P_wrap cn x = x - x / nI cn * nI cn := by
  unfold s_P_wrap
  rw [if_neg]
  intro h
  have := (nI_leI (a := cn) (b := 0) (by omega) (by omega)).mp h
  omega
theorem wrap_id {cn k : Nat} (h1 : cn ≤ 64) (hk : k < cn) : s_P_wrap cn (nI k) = nI k := by
  rw [wrap_eq (by omega) h1, pk_rem (by omega) (by omega) (by omega), Nat.mod_eq_of_lt hk]
def ciP (i cn : Nat) (F a8 a9 a10 a15 a18 a19 a20 a21 a22 F' g' v' b8 b9 b10 b15 b18 b19 b20 b21 b22 : Nat → Int32) : Prop :=
  (rg1 i g' b8 ∧ fr 8 i a8 b8 ∧ rv1 i v' b9 ∧ fr 32 i a9 b9 ∧ F' 1 = b10 i ∧ fr 1 i a10 b10 ∧ (∃ k, k < cn ∧ b10 i = nI k)) ∧
  (F' 8 = F 8 ∧ F' 9 = F 9 ∧ F' 10 = F 10 ∧ F' 11 = F 11 ∧ F' 12 = b15 i ∧ fr 1 i a15 b15 ∧ F' 15 = 0) ∧
  (wr (F' 2) (F' 3) (b18 i) ∧ fr 1 i a18 b18) ∧
  (F' 16 = b19 i ∧ (b19 i = 0 ∨ b19 i = 1) ∧ fr 1 i a19 b19 ∧ F' 4 = b20 i ∧ fr 1 i a20 b20 ∧ optI 8 (b20 i)) ∧
  (F' 5 = b21 i ∧ fr 1 i a21 b21 ∧ optI 32 (b21 i) ∧ (F' 5 = -1 ∨ (F' 6 = b22 i ∧ is16 (F' 6))) ∧ fr 1 i a22 b22 ∧ wdI 8 g')
theorem ci_fz {i cn : Nat} {F a8 a9 a10 a15 a18 a19 a20 a21 a22 F' g' v' b8 b9 b10 b15 b18 b19 b20 b21 b22 : Nat → Int32} (h : ciP i cn F a8 a9 a10 a15 a18 a19 a20 a21 a22 F' g' v' b8 b9 b10 b15 b18 b19 b20 b21 b22) : ciP i cn F a8 a9 a10 a15 a18 a19 a20 a21 a22 (clW F') g' v' b8 b9 b10 b15 (upd b18 i (-1)) b19 b20 b21 b22 :=
  ⟨h.1, h.2.1, ⟨Or.inl ⟨rfl, rfl, pk_us⟩, fr_t h.2.2.1.2 (fr_1 i _ _)⟩, h.2.2.2.1, h.2.2.2.2⟩
/-- what no wish, no store and no word in change -/
theorem ci_0 {i cn : Nat} {F a8 a9 a10 a15 a18 a19 a20 a21 a22 g' v' b8 b9 : Nat → Int32} {x : Int32} (h1 : rg1 i g' b8) (h2 : fr 8 i a8 b8) (h3 : rv1 i v' b9) (h4 : fr 32 i a9 b9) (hx : ∃ k, k < cn ∧ x = nI k) (h12 : F 12 = a15 i) (hw : wdI 8 g') : ciP i cn F a8 a9 a10 a15 a18 a19 a20 a21 a22 (upc (flF F) 1 x) g' v' b8 b9 (upd a10 i x) a15 (upd a18 i (-1)) (upd a19 i 0) (upd a20 i (-1)) (upd a21 i (-1)) a22 :=
  ⟨⟨h1, h2, h3, h4, pk_us.symm, fr_1 i _ _, by rw [pk_us]; exact hx⟩, ⟨rfl, rfl, rfl, rfl, h12, fr_r 1 i _, rfl⟩, ⟨Or.inl ⟨rfl, rfl, pk_us⟩, fr_1 i _ _⟩, ⟨pk_us.symm, Or.inl pk_us, fr_1 i _ _, pk_us.symm, fr_1 i _ _, Or.inl pk_us⟩, ⟨pk_us.symm, fr_1 i _ _, Or.inl pk_us, Or.inl rfl, fr_r 1 i _, hw⟩⟩
theorem reckon_eq {o x y : Int32} (hx : is16 x) (hy : is16 y) : s_C_reckon o x y = s_M_result o x y := by
  unfold s_C_reckon s_M_result
  split
  · rfl
  · split
    · rfl
    · split
      · exact (is16_xor hx hy).symm
      · exact (is16_ush hx).symm
theorem result16 (o x y : Int32) : is16 (s_M_result o x y) := by
  unfold s_M_result
  split
  · exact is16_m _
  · split
    · exact is16_m _
    · split <;> exact is16_m _
theorem clr {j : Nat} (h : j < 8) : Int32.toNatClampNeg (nI j) = j := nI_clamp (by omega)
theorem rg1_reg {i : Nat} {g a8 : Nat → Int32} {b : Nat} (h : rg1 i g a8) (hb : b < 8) : a8 (8 * i + b) = g b := (h b hb).symm
theorem wraps {cn k : Nat} (h1 : cn ≤ 64) (hk : k < cn) : ∃ j, j < cn ∧ (nI k + 1) - (nI k + 1) / nI cn * nI cn = nI j := by
  rw [show nI k + 1 = nI (k + 1) from nI_1 k, pk_rem (by omega) (by omega) (by omega)]
  exact ⟨_, Nat.mod_lt _ (by omega), rfl⟩
theorem jmp_ok {cn : Nat} {x : Int32} (h : bad cn x = false) (hj : ush x 24 = 7 ∨ ush x 24 = 8) (hc : cn ≤ 64) : ∃ j, j < cn ∧ wB x = nI j := by
  obtain ⟨j, hj2, e⟩ := wB_nI x
  have hjm : jmp x = true := by
    unfold jmp
    rcases hj with h9 | h9 <;> simp [h9]
  unfold bad at h
  rw [hjm] at h
  simp at h
  rw [e] at h
  exact ⟨j, (nI_ltI (by omega) (by omega)).mp h, e⟩
theorem ops {x : Int32} (h : isIn x = true) (h0 : ¬ ush x 24 = 0) (h1 : ¬ ush x 24 = 1) (h2 : ¬ ush x 24 = 2) (h3 : ¬ ush x 24 = 3) (h4 : ¬ ush x 24 = 4) (h5 : ¬ ush x 24 = 5) (h6 : ¬ ush x 24 = 6) (h7 : ¬ ush x 24 = 7) (h8 : ¬ ush x 24 = 8) (h9 : ¬ ush x 24 = 9) : ush x 24 = 10 := by
  simp [isIn, isInA, h0, h1, h2, h3, h4, h5, h6, h7, h8, h9] at h
  exact h.1
theorem pair3 {α β γ : Type} {p : α × β × γ} {a : α} {b : β} {c : γ} (h : p = (a, b, c)) : p.1 = a ∧ p.2.1 = b ∧ p.2.2 = c := by subst h; exact ⟨rfl, rfl, rfl⟩
/-- the class's instruction of one module -/
def tIns (F g v : Nat → Int32) (cn : Nat) (f : Nat → Int32) : (Nat → Int32) × (Nat → Int32) × (Nat → Int32) :=
  if flF F 8 = 0 then
    if flF F 12 = 0 then
      bnd (s_C_execute_D (flF F) g v cn f) (fun (F', g', v') => if F' 11 = 0 then (F', g', v') else (clW F', g', v'))
    else
      bnd (s_C_passOver_D (upc (flF F) 12 (0 : Int32)) cn) (fun x => if (upc (upc (flF F) 12 (0 : Int32)) 1 x 11) = 0 then (upc (upc (flF F) 12 (0 : Int32)) 1 x, g, v) else (clW (upc (upc (flF F) 12 (0 : Int32)) 1 x), g, v))
  else (flF F, g, v)
def ciQ (i cn : Nat) (F a8 a9 a10 a15 a18 a19 a20 a21 a22 : Nat → Int32) (p : (Nat → Int32) × (Nat → Int32) × (Nat → Int32)) (q : (Nat → Int32) × (Nat → Int32) × (Nat → Int32) × (Nat → Int32) × (Nat → Int32) × (Nat → Int32) × (Nat → Int32) × (Nat → Int32) × (Nat → Int32) × (Nat → Int32) × Int32) : Prop :=
  match p with
  | (F', g', v') => match q with
    | (b8, b9, b10, b15, _, b18, b19, b20, b21, b22, _) => ciP i cn F a8 a9 a10 a15 a18 a19 a20 a21 a22 F' g' v' b8 b9 b10 b15 b18 b19 b20 b21 b22
theorem ci_fin {i cn : Nat} {F a8 a9 a10 a14 a15 a18 a19 a20 a21 a22 F' g' v' b8 b9 b10 b15 b16 b18 b19 b20 b21 b22 : Nat → Int32} {y : Int32} (h11 : F' 11 = a14 i) (h : ciP i cn F a8 a9 a10 a15 a18 a19 a20 a21 a22 F' g' v' b8 b9 b10 b15 b18 b19 b20 b21 b22) : ciQ i cn F a8 a9 a10 a15 a18 a19 a20 a21 a22 (if F' 11 = 0 then (F', g', v') else (clW F', g', v')) (if a14 i = 0 then (b8, b9, b10, b15, b16, b18, b19, b20, b21, b22, y) else (b8, b9, b10, b15, b16, upd b18 i (-1), b19, b20, b21, b22, y)) := by
  rw [h11]
  by_cases e : a14 i = 0
  · rw [if_pos e, if_pos e]; exact h
  · rw [if_neg e, if_neg e]; exact ci_fz h
theorem exec_rel {i cn : Nat} {uM F g v a2 a8 a9 a10 a14 a15 a16 a18 a19 a20 a21 a22 : Nat → Int32} (hi : i < 3) (hg : rg1 i g a8) (hv : rv1 i v a9) (h1 : F 1 = a10 i) (h12 : F 12 = a15 i) (h15 : a15 i = 0) (h11 : F 11 = a14 i) (hc : prI cn a2) (hbd : ∀ j, j < cn → bad cn (a2 j) = false) (hr : wdI 8 g) (hk : ∃ k, k < cn ∧ a10 i = nI k) : ciQ i cn F a8 a9 a10 a15 a18 a19 a20 a21 a22 (bnd (s_C_execute_D (flF F) g v cn a2) (fun (F', g', v') => if F' 11 = 0 then (F', g', v') else (clW F', g', v'))) (s_M_instruction uM cn a2 a8 a9 a10 a14 a15 a16 a18 a19 a20 a21 a22 (nI i)) := by
  obtain ⟨k, hk, e10⟩ := hk
  obtain ⟨hc1, hc2⟩ := hc
  have hin := hc2 k hk
  have hb := hbd k hk
  unfold s_C_execute_D s_M_instruction
  have eT : s_P_instructionAt cn a2 (flF F 1) = a2 k := by
    unfold s_P_instructionAt
    rw [show flF F 1 = F 1 from rfl, h1, e10, wrap_id hc1 hk, bnd_eq, nI_clamp (by omega)]
  have eP : s_C_passOver_D (flF F) cn = (a10 i + 1) - (a10 i + 1) / nI cn * nI cn := by
    unfold s_C_passOver_D
    rw [show flF F 1 = F 1 from rfl, h1, wrap_eq (by omega) hc1, bnd_eq]
  rw [eT, eP, cl3 hi]
  simp only [bnd_eq]
  rw [show a2 (Int32.toNatClampNeg (a10 i)) = a2 k by rw [e10, nI_clamp (by omega)], if_pos h15]
  have hx : ∃ j, j < cn ∧ (a10 i + 1) - (a10 i + 1) / nI cn * nI cn = nI j := by rw [e10]; exact wraps hc1 hk
  generalize (a10 i + 1) - (a10 i + 1) / nI cn * nI cn = x at *
  generalize a2 k = iw at *
  have t11 : ∀ y, upc (flF F) 1 y 11 = a14 i := fun y => h11
  by_cases o0 : ush iw 24 = 0
  · rw [if_pos o0, if_pos o0]
    obtain ⟨a, ha, eA⟩ := reg_nI (wA_nI iw) (in_A hin (Or.inl o0))
    rw [eA, clr ha, ad8 hi ha, Int32.mul_comm 256 (wB iw)]
    exact ci_fin h11 (ci_0 (rg1_u _ hg ha) (fr_u _ _ (by omega) (by omega)) hv (fr_r _ _ _) hx h12 (rgI_upd hr (set16 iw)))
  rw [if_neg o0, if_neg o0]
  by_cases o1 : ush iw 24 = 1
  · rw [if_pos o1, if_pos o1]
    obtain ⟨rA, rB, rC⟩ := in_ABC hin (Or.inl o1)
    obtain ⟨a, ha, eA⟩ := reg_nI (wA_nI iw) rA
    obtain ⟨b, hb, eB⟩ := reg_nI (wB_nI iw) rB
    obtain ⟨c, hc, eC⟩ := reg_nI (wC_nI iw) rC
    rw [eA, eB, eC, clr ha, clr hb, clr hc, ad8 hi ha, ad8 hi hb, ad8 hi hc, rg1_reg hg hb, rg1_reg hg hc, reckon_eq (hr b hb) (hr c hc)]
    exact ci_fin h11 (ci_0 (rg1_u _ hg ha) (fr_u _ _ (by omega) (by omega)) hv (fr_r _ _ _) hx h12 (rgI_upd hr (result16 _ _ _)))
  rw [if_neg o1, if_neg o1]
  by_cases o2 : ush iw 24 = 2
  · rw [if_pos o2, if_pos o2]
    obtain ⟨rA, rB, rC⟩ := in_ABC hin (Or.inr (Or.inl o2))
    obtain ⟨a, ha, eA⟩ := reg_nI (wA_nI iw) rA
    obtain ⟨b, hb, eB⟩ := reg_nI (wB_nI iw) rB
    obtain ⟨c, hc, eC⟩ := reg_nI (wC_nI iw) rC
    rw [eA, eB, eC, clr ha, clr hb, clr hc, ad8 hi ha, ad8 hi hb, ad8 hi hc, rg1_reg hg hb, rg1_reg hg hc, reckon_eq (hr b hb) (hr c hc)]
    exact ci_fin h11 (ci_0 (rg1_u _ hg ha) (fr_u _ _ (by omega) (by omega)) hv (fr_r _ _ _) hx h12 (rgI_upd hr (result16 _ _ _)))
  rw [if_neg o2, if_neg o2]
  by_cases o3 : ush iw 24 = 3
  · rw [if_pos o3, if_pos o3]
    obtain ⟨rA, rB, rC⟩ := in_ABC hin (Or.inr (Or.inr (Or.inl o3)))
    obtain ⟨a, ha, eA⟩ := reg_nI (wA_nI iw) rA
    obtain ⟨b, hb, eB⟩ := reg_nI (wB_nI iw) rB
    obtain ⟨c, hc, eC⟩ := reg_nI (wC_nI iw) rC
    rw [eA, eB, eC, clr ha, clr hb, clr hc, ad8 hi ha, ad8 hi hb, ad8 hi hc, rg1_reg hg hb, rg1_reg hg hc, reckon_eq (hr b hb) (hr c hc)]
    exact ci_fin h11 (ci_0 (rg1_u _ hg ha) (fr_u _ _ (by omega) (by omega)) hv (fr_r _ _ _) hx h12 (rgI_upd hr (result16 _ _ _)))
  rw [if_neg o3, if_neg o3]
  by_cases o4 : ush iw 24 = 4
  · rw [if_pos o4, if_pos o4]
    obtain ⟨rA, rB, rC⟩ := in_ABC hin (Or.inr (Or.inr (Or.inr o4)))
    obtain ⟨a, ha, eA⟩ := reg_nI (wA_nI iw) rA
    obtain ⟨b, hb, eB⟩ := reg_nI (wB_nI iw) rB
    obtain ⟨c, hc, eC⟩ := reg_nI (wC_nI iw) rC
    rw [eA, eB, eC, clr ha, clr hb, clr hc, ad8 hi ha, ad8 hi hb, ad8 hi hc, rg1_reg hg hb, rg1_reg hg hc, reckon_eq (hr b hb) (hr c hc)]
    exact ci_fin h11 (ci_0 (rg1_u _ hg ha) (fr_u _ _ (by omega) (by omega)) hv (fr_r _ _ _) hx h12 (rgI_upd hr (result16 _ _ _)))
  rw [if_neg o4, if_neg o4]
  by_cases o5 : ush iw 24 = 5
  · rw [if_pos o5, if_pos o5]
    obtain ⟨rA, rB⟩ := in_AB hin (Or.inl o5)
    obtain ⟨a, ha, eA⟩ := reg_nI (wA_nI iw) rA
    obtain ⟨b, hb, eB⟩ := reg_nI (wB_nI iw) rB
    obtain ⟨w, hw, eW⟩ := pl32_nI (hr b hb) (wC_nI iw)
    rw [eA, eB, clr ha, clr hb, ad8 hi ha, ad8 hi hb, rg1_reg hg hb, eW]
    obtain ⟨ev, n, hn, en⟩ := hv w hw
    obtain ⟨r, p, n', A, hr01, hn', eD, eM⟩ := rd_eq (F := upc (flF F) 1 x) (cd := v) (a9 := a9) (a16 := a16) (i := i) hn hw hi en (by rw [← ev]; exact en)
    unfold s_D_readWord
    rw [eD, eM]
    simp only [bnd_eq]
    rw [nI_clamp (show w < 2 ^ 31 by omega), pk_us]
    have hv2 : rv1 i (upd v w (nI n')) (upd a9 (32 * i + w) (nI n')) := rv1_u hv hw ⟨n', hn', rfl⟩
    have hf2 : fr 32 i a9 (upd a9 (32 * i + w) (nI n')) := fr_u _ _ (by omega) (by omega)
    rcases hr01 with rfl | rfl
    · rw [if_pos rfl, if_pos rfl]
      have e0 : vp_nar .boolean (upc uM 24 0 24) = 0 := by rw [show upc uM 24 0 24 = 0 from rfl]; decide
      rw [e0]
      refine ci_fin (F' := upc (upc (flF F) 1 x) 13 p) h11 ?_
      have h := ci_0 (i := i) (cn := cn) (F := F) (a10 := a10) (a15 := a15) (a18 := a18) (a19 := a19) (a20 := a20) (a21 := a21) (a22 := a22) (rg1_u (s_K_wordOf (nI n')) hg ha) (fr_u a8 (s_K_wordOf (nI n')) (by omega) (by omega)) hv2 hf2 hx h12 (rgI_upd hr (is16_word (nI n')))
      exact ⟨h.1, h.2.1, h.2.2.1, ⟨by rw [pk_us]; rfl, Or.inl pk_us, fr_t (fr_1 i _ _) (fr_1 i _ _), h.2.2.2.1.2.2.2⟩, h.2.2.2.2⟩
    · rw [if_neg (show ¬ (1 : Int32) = 0 by decide), if_neg (show ¬ (1 : Int32) = 0 by decide)]
      have e0 : vp_nar .boolean (upc uM 24 1 24) = 1 := by rw [show upc uM 24 1 24 = 1 from rfl]; decide
      rw [e0]
      refine ci_fin (F' := upc (upc (upc (flF F) 1 x) 13 p) 16 1) h11 ?_
      have h := ci_0 (i := i) (cn := cn) (F := F) (a10 := a10) (a15 := a15) (a18 := a18) (a19 := a19) (a20 := a20) (a21 := a21) (a22 := a22) (rg1_u 0 hg ha) (fr_u a8 0 (by omega) (by omega)) hv2 hf2 hx h12 (rgI_upd hr is16_0)
      exact ⟨h.1, h.2.1, h.2.2.1, ⟨by rw [pk_us]; rfl, Or.inr pk_us, fr_t (fr_1 i _ _) (fr_1 i _ _), h.2.2.2.1.2.2.2⟩, h.2.2.2.2⟩
  rw [if_neg o5, if_neg o5]
  by_cases o6 : ush iw 24 = 6
  · rw [if_pos o6, if_pos o6]
    obtain ⟨rA, rB⟩ := in_AB hin (Or.inr o6)
    obtain ⟨a, ha, eA⟩ := reg_nI (wA_nI iw) rA
    obtain ⟨b, hb, eB⟩ := reg_nI (wB_nI iw) rB
    obtain ⟨w, hw, eW⟩ := pl32_nI (hr b hb) (wC_nI iw)
    rw [eA, eB, clr ha, clr hb, ad8 hi ha, ad8 hi hb, rg1_reg hg hb, rg1_reg hg ha, eW]
    obtain ⟨n, hn, en⟩ := is16_nI (hr a ha)
    obtain ⟨c, hc22, ec⟩ := enc_nI (n := n) (by omega)
    unfold s_D_writeWord
    rw [pk_us, pk_us, ad32 hi hw, nI_clamp (show w < 2 ^ 31 by omega)]
    simp only [bnd_eq]
    rw [en, ofw_enc (by omega), ec, ← en, upd2]
    refine ci_fin (F' := upc (upc (upc (flF F) 1 x) 5 (nI w)) 6 (g a)) h11 ?_
    have h := ci_0 (i := i) (cn := cn) (F := F) (a10 := a10) (a15 := a15) (a18 := a18) (a19 := a19) (a20 := a20) (a21 := a21) (a22 := a22) hg (fr_r 8 i a8) (rv1_u hv hw ⟨c, hc22, rfl⟩) (fr_u a9 (nI c) (by omega) (by omega)) hx h12 hr
    exact ⟨h.1, h.2.1, h.2.2.1, h.2.2.2.1, ⟨by rw [pk_us]; rfl, fr_1 i _ _, by rw [pk_us]; exact Or.inr ⟨w, hw, rfl⟩, Or.inr ⟨by rw [pk_us]; rfl, hr a ha⟩, fr_1 i _ _, hr⟩⟩
  rw [if_neg o6, if_neg o6]
  by_cases o7 : ush iw 24 = 7
  · rw [if_pos o7, if_pos o7]
    obtain ⟨a, ha, eA⟩ := reg_nI (wA_nI iw) (in_A hin (Or.inr (Or.inl o7)))
    rw [eA, clr ha, ad8 hi ha, rg1_reg hg ha]
    by_cases z : g a = 0
    · rw [if_pos z, if_pos z, upc2, upd2]
      exact ci_fin h11 (ci_0 hg (fr_r _ _ _) hv (fr_r _ _ _) (jmp_ok hb (Or.inl o7) hc1) h12 hr)
    · rw [if_neg z, if_neg z]
      exact ci_fin h11 (ci_0 hg (fr_r _ _ _) hv (fr_r _ _ _) hx h12 hr)
  rw [if_neg o7, if_neg o7]
  by_cases o8 : ush iw 24 = 8
  · rw [if_pos o8, if_pos o8, upc2, upd2]
    exact ci_fin h11 (ci_0 hg (fr_r _ _ _) hv (fr_r _ _ _) (jmp_ok hb (Or.inr o8) hc1) h12 hr)
  rw [if_neg o8, if_neg o8]
  by_cases o9 : ush iw 24 = 9
  · rw [if_pos o9, if_pos o9]
    obtain ⟨a, ha, eA⟩ := reg_nI (wA_nI iw) (in_A hin (Or.inr (Or.inr (Or.inl o9))))
    rw [eA]
    refine ci_fin (F' := upc (upc (upc (flF F) 1 x) 2 1) 4 (nI a)) h11 ?_
    have h := ci_0 (i := i) (cn := cn) (F := F) (a10 := a10) (a15 := a15) (a18 := a18) (a19 := a19) (a20 := a20) (a21 := a21) (a22 := a22) hg (fr_r 8 i a8) hv (fr_r 32 i a9) hx h12 hr
    exact ⟨h.1, h.2.1, ⟨Or.inr (Or.inl ⟨rfl, rfl, pk_us⟩), fr_t (fr_1 i _ _) (fr_1 i _ _)⟩, ⟨h.2.2.2.1.1, h.2.2.2.1.2.1, h.2.2.2.1.2.2.1, by rw [pk_us]; rfl, fr_t (fr_1 i _ _) (fr_1 i _ _), by rw [pk_us]; exact Or.inr ⟨a, ha, rfl⟩⟩, h.2.2.2.2⟩
  rw [if_neg o9, if_neg o9]
  have o10 := ops hin o0 o1 o2 o3 o4 o5 o6 o7 o8 o9
  rw [if_pos o10]
  obtain ⟨a, ha, eA⟩ := reg_nI (wA_nI iw) (in_A hin (Or.inr (Or.inr (Or.inr o10))))
  rw [eA, clr ha, ad8 hi ha, rg1_reg hg ha]
  refine ci_fin (F' := upc (upc (upc (flF F) 1 x) 2 2) 3 (g a)) h11 ?_
  have h := ci_0 (i := i) (cn := cn) (F := F) (a10 := a10) (a15 := a15) (a18 := a18) (a19 := a19) (a20 := a20) (a21 := a21) (a22 := a22) hg (fr_r 8 i a8) hv (fr_r 32 i a9) hx h12 hr
  exact ⟨h.1, h.2.1, ⟨Or.inr (Or.inr ⟨rfl, hr a ha, pk_us⟩), fr_t (fr_1 i _ _) (fr_1 i _ _)⟩, h.2.2.2.1, h.2.2.2.2⟩
/-! the instructions of the three modules -/
def c3 (X : (Nat → Nat → Int32) × (Nat → Nat → Int32) × (Nat → Nat → Int32)) (i : Nat) : (Nat → Int32) × (Nat → Int32) × (Nat → Int32) := (X.1 i, X.2.1 i, X.2.2 i)
theorem di2 (cn : Nat) (f : Nat → Int32) (F g v : Nat → Nat → Int32) : c3 (s_T_doInstructions_cut2_2 cn f F g v) 0 = (F 0, g 0, v 0) ∧ c3 (s_T_doInstructions_cut2_2 cn f F g v) 1 = (F 1, g 1, v 1) ∧ c3 (s_T_doInstructions_cut2_2 cn f F g v) 2 = tIns (F 2) (g 2) (v 2) cn f := by
  unfold s_T_doInstructions_cut2_2 tIns
  simp only [bnd_eq]
  by_cases h : flF (F 2) 8 = 0
  · rw [if_pos h, if_pos h]
    by_cases h2 : flF (F 2) 12 = 0
    · rw [if_pos h2, if_pos h2]
      generalize s_C_execute_D (flF (F 2)) (g 2) (v 2) cn f = E
      obtain ⟨E1, E2, E3⟩ := E
      dsimp only
      split <;> exact ⟨rfl, rfl, rfl⟩
    · rw [if_neg h2, if_neg h2]
      split <;> exact ⟨rfl, rfl, rfl⟩
  · rw [if_neg h, if_neg h]
    exact ⟨rfl, rfl, rfl⟩
theorem di1 (cn : Nat) (f : Nat → Int32) (F g v : Nat → Nat → Int32) : c3 (s_T_doInstructions_cut2_1 cn f F g v) 0 = (F 0, g 0, v 0) ∧ c3 (s_T_doInstructions_cut2_1 cn f F g v) 1 = tIns (F 1) (g 1) (v 1) cn f ∧ c3 (s_T_doInstructions_cut2_1 cn f F g v) 2 = tIns (F 2) (g 2) (v 2) cn f := by
  unfold s_T_doInstructions_cut2_1 tIns
  simp only [bnd_eq]
  by_cases h : flF (F 1) 8 = 0
  · rw [if_pos h, if_pos h]
    by_cases h2 : flF (F 1) 12 = 0
    · rw [if_pos h2, if_pos h2]
      generalize s_C_execute_D (flF (F 1)) (g 1) (v 1) cn f = E
      obtain ⟨E1, E2, E3⟩ := E
      dsimp only
      split <;> exact di2 _ _ _ _ _
    · rw [if_neg h2, if_neg h2]
      split <;> exact di2 _ _ _ _ _
  · rw [if_neg h, if_neg h]
    exact di2 _ _ _ _ _
theorem di0 (cn : Nat) (f : Nat → Int32) (F g v : Nat → Nat → Int32) : c3 (s_T_doInstructions F g v cn f) 0 = tIns (F 0) (g 0) (v 0) cn f ∧ c3 (s_T_doInstructions F g v cn f) 1 = tIns (F 1) (g 1) (v 1) cn f ∧ c3 (s_T_doInstructions F g v cn f) 2 = tIns (F 2) (g 2) (v 2) cn f := by
  unfold s_T_doInstructions
  rw [show tIns (F 0) (g 0) (v 0) cn f = if flF (F 0) 8 = 0 then if flF (F 0) 12 = 0 then bnd (s_C_execute_D (flF (F 0)) (g 0) (v 0) cn f) (fun (F', g', v') => if F' 11 = 0 then (F', g', v') else (clW F', g', v')) else bnd (s_C_passOver_D (upc (flF (F 0)) 12 (0 : Int32)) cn) (fun x => if (upc (upc (flF (F 0)) 12 (0 : Int32)) 1 x 11) = 0 then (upc (upc (flF (F 0)) 12 (0 : Int32)) 1 x, g 0, v 0) else (clW (upc (upc (flF (F 0)) 12 (0 : Int32)) 1 x), g 0, v 0)) else (flF (F 0), g 0, v 0) from rfl]
  simp only [bnd_eq]
  by_cases h : flF (F 0) 8 = 0
  · rw [if_pos h, if_pos h]
    by_cases h2 : flF (F 0) 12 = 0
    · rw [if_pos h2, if_pos h2]
      generalize s_C_execute_D (flF (F 0)) (g 0) (v 0) cn f = E
      obtain ⟨E1, E2, E3⟩ := E
      dsimp only
      split <;> exact di1 _ _ _ _ _
    · rw [if_neg h2, if_neg h2]
      split <;> exact di1 _ _ _ _ _
  · rw [if_neg h, if_neg h]
    exact di1 _ _ _ _ _
/-! the reference's instructions, one module after another -/
def r0 (i cn : Nat) (F g v a8 a9 a10 a11 a14 a15 : Nat → Int32) : Prop := rg1 i g a8 ∧ rv1 i v a9 ∧ F 1 = a10 i ∧ (∃ k, k < cn ∧ a10 i = nI k) ∧ F 8 = a11 i ∧ F 11 = a14 i ∧ F 12 = a15 i ∧ wdI 8 g
def siP (i cn : Nat) (F F' g' v' b8 b9 b10 b15 b18 b19 b20 b21 b22 b23 : Nat → Int32) : Prop :=
  (rg1 i g' b8 ∧ rv1 i v' b9 ∧ F' 1 = b10 i ∧ (∃ k, k < cn ∧ b10 i = nI k)) ∧
  (F' 8 = F 8 ∧ F' 9 = F 9 ∧ F' 10 = F 10 ∧ F' 11 = F 11 ∧ F' 12 = b15 i ∧ F' 15 = b23 i ∧ b23 i = 0) ∧
  (F 8 = 0 → wr (F' 2) (F' 3) (b18 i) ∧ F' 16 = b19 i ∧ (b19 i = 0 ∨ b19 i = 1)) ∧
  (F' 4 = b20 i ∧ optI 8 (b20 i)) ∧
  (F' 5 = b21 i ∧ optI 32 (b21 i) ∧ (F' 5 = -1 ∨ (F' 6 = b22 i ∧ is16 (F' 6))) ∧ wdI 8 g')
def frA (i : Nat) (a8 a9 a10 a15 a18 a19 a20 a21 a22 a23 b8 b9 b10 b15 b18 b19 b20 b21 b22 b23 : Nat → Int32) : Prop := fr 8 i a8 b8 ∧ fr 32 i a9 b9 ∧ fr 1 i a10 b10 ∧ fr 1 i a15 b15 ∧ fr 1 i a18 b18 ∧ fr 1 i a19 b19 ∧ fr 1 i a20 b20 ∧ fr 1 i a21 b21 ∧ fr 1 i a22 b22 ∧ fr 1 i a23 b23
theorem r0_f {i j cn : Nat} {F g v a11 a14 a8 a9 a10 a15 a18 a19 a20 a21 a22 a23 b8 b9 b10 b15 b18 b19 b20 b21 b22 b23 : Nat → Int32} (h : r0 j cn F g v a8 a9 a10 a11 a14 a15) (f : frA i a8 a9 a10 a15 a18 a19 a20 a21 a22 a23 b8 b9 b10 b15 b18 b19 b20 b21 b22 b23) (hj : ¬ j = i) : r0 j cn F g v b8 b9 b10 a11 a14 b15 := by
  obtain ⟨f8, f9, f10, f15, f18, f19, f20, f21, f22, f23⟩ := f
  unfold r0
  rw [fr1_n f10 hj, fr1_n f15 hj]
  exact ⟨rg1_f h.1 f8 hj, rv1_f h.2.1 f9 hj, h.2.2⟩
theorem siP_f {i j cn : Nat} {F F' g' v' a8 a9 a10 a15 a18 a19 a20 a21 a22 a23 b8 b9 b10 b15 b18 b19 b20 b21 b22 b23 : Nat → Int32} (h : siP j cn F F' g' v' a8 a9 a10 a15 a18 a19 a20 a21 a22 a23) (f : frA i a8 a9 a10 a15 a18 a19 a20 a21 a22 a23 b8 b9 b10 b15 b18 b19 b20 b21 b22 b23) (hj : ¬ j = i) : siP j cn F F' g' v' b8 b9 b10 b15 b18 b19 b20 b21 b22 b23 := by
  obtain ⟨f8, f9, f10, f15, f18, f19, f20, f21, f22, f23⟩ := f
  unfold siP
  rw [fr1_n f10 hj, fr1_n f15 hj, fr1_n f18 hj, fr1_n f19 hj, fr1_n f20 hj, fr1_n f21 hj, fr1_n f22 hj, fr1_n f23 hj]
  exact ⟨⟨rg1_f h.1.1 f8 hj, rv1_f h.1.2.1 f9 hj, h.1.2.2⟩, h.2⟩
def mIns (uM : Nat → Int32) (cn : Nat) (a2 a11 a14 : Nat → Int32) (y24 : Int32) (a8 a9 a10 a15 a16 a18 a19 a20 a21 a22 a23 : Nat → Int32) (i : Nat) (mi : Int32) : (Nat → Int32) × (Nat → Int32) × (Nat → Int32) × (Nat → Int32) × (Nat → Int32) × (Nat → Int32) × (Nat → Int32) × (Nat → Int32) × (Nat → Int32) × (Nat → Int32) × (Nat → Int32) × Int32 :=
  if a11 i = 0 then
    bnd (s_M_instruction (upc uM 24 y24) cn a2 a8 a9 a10 a14 a15 a16 a18 a19 (upd a20 i (-1 : Int32)) (upd a21 i (-1 : Int32)) a22 mi) (fun (b8, b9, b10, b15, b16, b18, b19, b20, b21, b22, z24) => (b8, b9, b10, b15, b16, b18, b19, b20, b21, b22, upd a23 i (0 : Int32), upc (upc uM 24 y24) 24 z24 24))
  else (a8, a9, a10, a15, a16, a18, a19, upd a20 i (-1 : Int32), upd a21 i (-1 : Int32), a22, upd a23 i (0 : Int32), upc uM 24 y24 24)
theorem mIns_rel {i cn : Nat} {uM F g v a2 a8 a9 a10 a11 a14 a15 a16 a18 a19 a20 a21 a22 a23 : Nat → Int32} {y24 : Int32} (hi : i < 3) (h : r0 i cn F g v a8 a9 a10 a11 a14 a15) (hc : prI cn a2) (hbd : ∀ j, j < cn → bad cn (a2 j) = false) (hpos : 0 < cn) :
    ∃ b8 b9 b10 b15 b16 b18 b19 b20 b21 b22 b23 z24, mIns uM cn a2 a11 a14 y24 a8 a9 a10 a15 a16 a18 a19 a20 a21 a22 a23 i (nI i) = (b8, b9, b10, b15, b16, b18, b19, b20, b21, b22, b23, z24) ∧ frA i a8 a9 a10 a15 a18 a19 a20 a21 a22 a23 b8 b9 b10 b15 b18 b19 b20 b21 b22 b23 ∧ siP i cn F (tIns F g v cn a2).1 (tIns F g v cn a2).2.1 (tIns F g v cn a2).2.2 b8 b9 b10 b15 b18 b19 b20 b21 b22 b23 := by
  obtain ⟨hg, hv, h1, hk, h8, h11, h12, hr⟩ := h
  unfold mIns
  by_cases e8 : a11 i = 0
  · rw [if_pos e8]
    have e8' : flF F 8 = 0 := h8.trans e8
    by_cases e12 : a15 i = 0
    · have e12' : flF F 12 = 0 := h12.trans e12
      have h := exec_rel (uM := upc uM 24 y24) (a16 := a16) (a18 := a18) (a19 := a19) (a20 := upd a20 i (-1)) (a21 := upd a21 i (-1)) (a22 := a22) hi hg hv h1 h12 e12 h11 hc hbd hr hk
      have eT : tIns F g v cn a2 = bnd (s_C_execute_D (flF F) g v cn a2) (fun (F', g', v') => if F' 11 = 0 then (F', g', v') else (clW F', g', v')) := by
        unfold tIns
        rw [if_pos e8', if_pos e12']
      rw [← eT] at h
      generalize tIns F g v cn a2 = P at *
      generalize s_M_instruction (upc uM 24 y24) cn a2 a8 a9 a10 a14 a15 a16 a18 a19 (upd a20 i (-1 : Int32)) (upd a21 i (-1 : Int32)) a22 (nI i) = Q at *
      obtain ⟨F', g', v'⟩ := P
      obtain ⟨b8, b9, b10, b15, b16, b18, b19, b20, b21, b22, z24⟩ := Q
      obtain ⟨⟨p1, p2, p3, p4, p5, p6, p7⟩, ⟨p8, p9, p10, p11, p12, p13, p14⟩, ⟨p15, p16⟩, ⟨p17, p18, p19, p20, p21, p22⟩, ⟨p23, p24, p25, p26, p27, p28⟩⟩ := h
      refine ⟨_, _, _, _, _, _, _, _, _, _, _, _, rfl, ?_, ?_⟩
      · exact ⟨p2, p4, p6, p13, p16, p19, fr_t (fr_1 i _ _) p21, fr_t (fr_1 i _ _) p24, p27, fr_1 i _ _⟩
      · exact ⟨⟨p1, p3, p5, p7⟩, ⟨p8, p9, p10, p11, p12, p14.trans pk_us.symm, pk_us⟩, fun _ => ⟨p15, p17, p18⟩, ⟨p20, p22⟩, ⟨p23, p25, p26, p28⟩⟩
    · have e12' : ¬ flF F 12 = 0 := fun h => e12 (h12.symm.trans h)
      have hx : ∃ j, j < cn ∧ (a10 i + 1) - (a10 i + 1) / nI cn * nI cn = nI j := by
        obtain ⟨k, hk, e⟩ := hk
        rw [e]
        exact wraps hc.1 hk
      have eP : s_C_passOver_D (upc (flF F) 12 (0 : Int32)) cn = (a10 i + 1) - (a10 i + 1) / nI cn * nI cn := by
        unfold s_C_passOver_D
        rw [show upc (flF F) 12 (0 : Int32) 1 = F 1 from rfl, h1, wrap_eq hpos hc.1, bnd_eq]
      unfold s_M_instruction tIns
      rw [if_pos e8', if_neg e12', eP]
      simp only [bnd_eq]
      rw [cl3 hi, if_neg e12]
      generalize (a10 i + 1) - (a10 i + 1) / nI cn * nI cn = x at *
      have ha : frA i a8 a9 a10 a15 a18 a19 a20 a21 a22 a23 a8 a9 (upd a10 i x) (upd a15 i 0) (upd a18 i (-1)) (upd a19 i 0) (upd (upd a20 i (-1)) i (-1)) (upd (upd a21 i (-1)) i (-1)) a22 (upd a23 i 0) := ⟨fr_r _ _ _, fr_r _ _ _, fr_1 i _ _, fr_1 i _ _, fr_1 i _ _, fr_1 i _ _, fr_t (fr_1 i _ _) (fr_1 i _ _), fr_t (fr_1 i _ _) (fr_1 i _ _), fr_r _ _ _, fr_1 i _ _⟩
      refine ⟨_, _, _, _, _, _, _, _, _, _, _, _, rfl, ha, ?_⟩
      split
      · exact ⟨⟨hg, hv, pk_us.symm, hx.elim fun k e => ⟨k, e.1, pk_us.trans e.2⟩⟩, ⟨rfl, rfl, rfl, rfl, pk_us.symm, pk_us.symm, pk_us⟩, fun _ => ⟨Or.inl ⟨rfl, rfl, pk_us⟩, pk_us.symm, Or.inl pk_us⟩, ⟨pk_us.symm, Or.inl pk_us⟩, ⟨pk_us.symm, Or.inl pk_us, Or.inl rfl, hr⟩⟩
      · exact ⟨⟨hg, hv, pk_us.symm, hx.elim fun k e => ⟨k, e.1, pk_us.trans e.2⟩⟩, ⟨rfl, rfl, rfl, rfl, pk_us.symm, pk_us.symm, pk_us⟩, fun _ => ⟨Or.inl ⟨rfl, rfl, pk_us⟩, pk_us.symm, Or.inl pk_us⟩, ⟨pk_us.symm, Or.inl pk_us⟩, ⟨pk_us.symm, Or.inl pk_us, Or.inl rfl, hr⟩⟩
  · have e8' : ¬ flF F 8 = 0 := fun h => e8 (h8.symm.trans h)
    rw [if_neg e8]
    unfold tIns
    rw [if_neg e8']
    refine ⟨_, _, _, _, _, _, _, _, _, _, _, _, rfl, ?_, ?_⟩
    · exact ⟨fr_r _ _ _, fr_r _ _ _, fr_r _ _ _, fr_r _ _ _, fr_r _ _ _, fr_r _ _ _, fr_1 i _ _, fr_1 i _ _, fr_r _ _ _, fr_1 i _ _⟩
    · exact ⟨⟨hg, hv, h1, hk⟩, ⟨rfl, rfl, rfl, rfl, h12, pk_us.symm, pk_us⟩, fun h => absurd h e8', ⟨pk_us.symm, Or.inl pk_us⟩, ⟨pk_us.symm, Or.inl pk_us, Or.inl rfl, hr⟩⟩
theorem cut16_0 {uM a2 a11 a12 a13 a14 a17 a28 a30 a8 a9 a10 a15 a16 a18 a19 a20 a21 a22 a23 a31 a32 a36 b8 b9 b10 b15 b16 b18 b19 b20 b21 b22 b23 : Nat → Int32} {cn sn cm us wt ocx oux owx : Nat} {y24 z24 : Int32} (h : mIns uM cn a2 a11 a14 y24 a8 a9 a10 a15 a16 a18 a19 a20 a21 a22 a23 0 0 = (b8, b9, b10, b15, b16, b18, b19, b20, b21, b22, b23, z24)) : s_M_stepOnce_cut16_0 uM cn sn cm us wt a2 a11 a12 a13 a14 a17 a28 a30 y24 a8 a9 a10 a15 a16 a18 a19 a20 a21 a22 a23 a31 a32 a36 ocx oux owx = s_M_stepOnce_cut16_1 uM cn sn cm us wt a2 a11 a12 a13 a14 a17 a28 a30 z24 b8 b9 b10 b15 b16 b18 b19 b20 b21 b22 b23 a31 a32 a36 ocx oux owx := by
  unfold mIns at h
  unfold s_M_stepOnce_cut16_0
  split
  · rename_i e
    rw [if_pos e] at h
    generalize s_M_instruction (upc uM 24 y24) cn a2 a8 a9 a10 a14 a15 a16 a18 a19 (upd a20 0 (-1 : Int32)) (upd a21 0 (-1 : Int32)) a22 0 = Q at *
    obtain ⟨c8, c9, c10, c15, c16, c18, c19, c20, c21, c22, x24⟩ := Q
    simp only [bnd_eq, Prod.mk.injEq] at h ⊢
    obtain ⟨rfl, rfl, rfl, rfl, rfl, rfl, rfl, rfl, rfl, rfl, rfl, rfl⟩ := h
    rfl
  · rename_i e
    rw [if_neg e] at h
    simp only [Prod.mk.injEq] at h
    obtain ⟨rfl, rfl, rfl, rfl, rfl, rfl, rfl, rfl, rfl, rfl, rfl, rfl⟩ := h
    rfl
theorem cut16_1 {uM a2 a11 a12 a13 a14 a17 a28 a30 a8 a9 a10 a15 a16 a18 a19 a20 a21 a22 a23 a31 a32 a36 b8 b9 b10 b15 b16 b18 b19 b20 b21 b22 b23 : Nat → Int32} {cn sn cm us wt ocx oux owx : Nat} {y24 z24 : Int32} (h : mIns uM cn a2 a11 a14 y24 a8 a9 a10 a15 a16 a18 a19 a20 a21 a22 a23 1 1 = (b8, b9, b10, b15, b16, b18, b19, b20, b21, b22, b23, z24)) : s_M_stepOnce_cut16_1 uM cn sn cm us wt a2 a11 a12 a13 a14 a17 a28 a30 y24 a8 a9 a10 a15 a16 a18 a19 a20 a21 a22 a23 a31 a32 a36 ocx oux owx = s_M_stepOnce_cut16_2 uM cn sn cm us wt a2 a11 a12 a13 a14 a17 a28 a30 z24 b8 b9 b10 b15 b16 b18 b19 b20 b21 b22 b23 a31 a32 a36 ocx oux owx := by
  unfold mIns at h
  unfold s_M_stepOnce_cut16_1
  split
  · rename_i e
    rw [if_pos e] at h
    generalize s_M_instruction (upc uM 24 y24) cn a2 a8 a9 a10 a14 a15 a16 a18 a19 (upd a20 1 (-1 : Int32)) (upd a21 1 (-1 : Int32)) a22 1 = Q at *
    obtain ⟨c8, c9, c10, c15, c16, c18, c19, c20, c21, c22, x24⟩ := Q
    simp only [bnd_eq, Prod.mk.injEq] at h ⊢
    obtain ⟨rfl, rfl, rfl, rfl, rfl, rfl, rfl, rfl, rfl, rfl, rfl, rfl⟩ := h
    rfl
  · rename_i e
    rw [if_neg e] at h
    simp only [Prod.mk.injEq] at h
    obtain ⟨rfl, rfl, rfl, rfl, rfl, rfl, rfl, rfl, rfl, rfl, rfl, rfl⟩ := h
    rfl
theorem cut16_2 {uM a2 a11 a12 a13 a14 a17 a28 a30 a8 a9 a10 a15 a16 a18 a19 a20 a21 a22 a23 a31 a32 a36 b8 b9 b10 b15 b16 b18 b19 b20 b21 b22 b23 : Nat → Int32} {cn sn cm us wt ocx oux owx : Nat} {y24 z24 : Int32} (h : mIns uM cn a2 a11 a14 y24 a8 a9 a10 a15 a16 a18 a19 a20 a21 a22 a23 2 2 = (b8, b9, b10, b15, b16, b18, b19, b20, b21, b22, b23, z24)) : s_M_stepOnce_cut16_2 uM cn sn cm us wt a2 a11 a12 a13 a14 a17 a28 a30 y24 a8 a9 a10 a15 a16 a18 a19 a20 a21 a22 a23 a31 a32 a36 ocx oux owx = s_M_stepOnce_cut16_3 uM sn cm us wt a11 a12 a13 a17 a28 a30 z24 b8 b9 b10 b15 b16 b18 b19 b20 b21 b22 b23 a31 a32 a36 ocx oux owx := by
  unfold mIns at h
  unfold s_M_stepOnce_cut16_2
  split
  · rename_i e
    rw [if_pos e] at h
    generalize s_M_instruction (upc uM 24 y24) cn a2 a8 a9 a10 a14 a15 a16 a18 a19 (upd a20 2 (-1 : Int32)) (upd a21 2 (-1 : Int32)) a22 2 = Q at *
    obtain ⟨c8, c9, c10, c15, c16, c18, c19, c20, c21, c22, x24⟩ := Q
    simp only [bnd_eq, Prod.mk.injEq] at h ⊢
    obtain ⟨rfl, rfl, rfl, rfl, rfl, rfl, rfl, rfl, rfl, rfl, rfl, rfl⟩ := h
    rfl
  · rename_i e
    rw [if_neg e] at h
    simp only [Prod.mk.injEq] at h
    obtain ⟨rfl, rfl, rfl, rfl, rfl, rfl, rfl, rfl, rfl, rfl, rfl, rfl⟩ := h
    rfl
theorem instr_all {uM a2 a11 a12 a13 a14 a17 a28 a30 a8 a9 a10 a15 a16 a18 a19 a20 a21 a22 a23 a31 a32 a36 : Nat → Int32} {F g v : Nat → Nat → Int32} {cn sn cm us wt ocx oux owx : Nat} {y24 : Int32} (hc : prI cn a2) (hbd : ∀ j, j < cn → bad cn (a2 j) = false) (hpos : 0 < cn) (h0 : r0 0 cn (F 0) (g 0) (v 0) a8 a9 a10 a11 a14 a15) (h1 : r0 1 cn (F 1) (g 1) (v 1) a8 a9 a10 a11 a14 a15) (h2 : r0 2 cn (F 2) (g 2) (v 2) a8 a9 a10 a11 a14 a15) :
    ∃ b8 b9 b10 b15 b16 b18 b19 b20 b21 b22 b23 z24, s_M_stepOnce_cut16_0 uM cn sn cm us wt a2 a11 a12 a13 a14 a17 a28 a30 y24 a8 a9 a10 a15 a16 a18 a19 a20 a21 a22 a23 a31 a32 a36 ocx oux owx = s_M_stepOnce_cut16_3 uM sn cm us wt a11 a12 a13 a17 a28 a30 z24 b8 b9 b10 b15 b16 b18 b19 b20 b21 b22 b23 a31 a32 a36 ocx oux owx ∧ siP 0 cn (F 0) ((s_T_doInstructions F g v cn a2).1 0) ((s_T_doInstructions F g v cn a2).2.1 0) ((s_T_doInstructions F g v cn a2).2.2 0) b8 b9 b10 b15 b18 b19 b20 b21 b22 b23 ∧ siP 1 cn (F 1) ((s_T_doInstructions F g v cn a2).1 1) ((s_T_doInstructions F g v cn a2).2.1 1) ((s_T_doInstructions F g v cn a2).2.2 1) b8 b9 b10 b15 b18 b19 b20 b21 b22 b23 ∧ siP 2 cn (F 2) ((s_T_doInstructions F g v cn a2).1 2) ((s_T_doInstructions F g v cn a2).2.1 2) ((s_T_doInstructions F g v cn a2).2.2 2) b8 b9 b10 b15 b18 b19 b20 b21 b22 b23 := by
  obtain ⟨c8, c9, c10, c15, c16, c18, c19, c20, c21, c22, c23, u24, e0, f0, s0⟩ := mIns_rel (uM := uM) (y24 := y24) (a16 := a16) (a18 := a18) (a19 := a19) (a20 := a20) (a21 := a21) (a22 := a22) (a23 := a23) (show 0 < 3 by decide) h0 hc hbd hpos
  obtain ⟨d8, d9, d10, d15, d16, d18, d19, d20, d21, d22, d23, v24, e1, f1, s1⟩ := mIns_rel (uM := uM) (y24 := u24) (a16 := c16) (a18 := c18) (a19 := c19) (a20 := c20) (a21 := c21) (a22 := c22) (a23 := c23) (show 1 < 3 by decide) (r0_f h1 f0 (by decide)) hc hbd hpos
  obtain ⟨b8, b9, b10, b15, b16, b18, b19, b20, b21, b22, b23, z24, e2, f2, s2⟩ := mIns_rel (uM := uM) (y24 := v24) (a16 := d16) (a18 := d18) (a19 := d19) (a20 := d20) (a21 := d21) (a22 := d22) (a23 := d23) (show 2 < 3 by decide) (r0_f (r0_f h2 f0 (by decide)) f1 (by decide)) hc hbd hpos
  refine ⟨b8, b9, b10, b15, b16, b18, b19, b20, b21, b22, b23, z24, (cut16_0 e0).trans ((cut16_1 e1).trans (cut16_2 e2)), ?_, ?_, ?_⟩
  · have e := (di0 cn a2 F g v).1
    rw [← e] at s0
    exact siP_f (siP_f s0 f1 (by decide)) f2 (by decide)
  · have e := (di0 cn a2 F g v).2.1
    rw [← e] at s1
    exact siP_f s1 f2 (by decide)
  · have e := (di0 cn a2 F g v).2.2
    rw [← e] at s2
    exact s2
/-! the vote: ballots -/
theorem or_nI {m n : Nat} (hn : n < 65536) : nI (m * 65536) ||| nI n = nI (m * 65536 + n) := by
  rw [nI_or]
  have h : 2 ^ 16 * m + n = 2 ^ 16 * m ||| n := Nat.two_pow_add_eq_or_of_lt (i := 16) hn m
  rw [show m * 65536 = 2 ^ 16 * m by omega, h]
theorem bal_nI {F : Nat → Int32} {a : Int32} (h : wr (F 2) (F 3) a) (hs : F 16 = 0 ∨ F 16 = 1) : ∃ w x s : Nat, w < 3 ∧ x < 65536 ∧ s < 2 ∧ (w = 2 ∨ x = 0) ∧ F 16 = nI s ∧ s_D_wishAsBallot F = nI ((w * 2 + s) * 65536 + x) ∧ a = (if w = 0 then -1 else if w = 1 then -2 else nI x) := by
  have sh : ∀ w, w < 3 → ∀ s, s < 2 → ((nI w * (2 : Int32)) + nI s) <<< ((16 : Int32) &&& 31) = nI ((w * 2 + s) * 65536) := by decide
  have key : ∀ w x s : Nat, w < 3 → x < 65536 → s < 2 → (w = 2 ∨ x = 0) → F 2 = nI w → F 3 = nI x → F 16 = nI s → a = (if w = 0 then -1 else if w = 1 then -2 else nI x) → ∃ w x s : Nat, w < 3 ∧ x < 65536 ∧ s < 2 ∧ (w = 2 ∨ x = 0) ∧ F 16 = nI s ∧ s_D_wishAsBallot F = nI ((w * 2 + s) * 65536 + x) ∧ a = (if w = 0 then -1 else if w = 1 then -2 else nI x) := by
    intro w x s hw hx hs h0 e2 e3 e16 ea
    refine ⟨w, x, s, hw, hx, hs, h0, e16, ?_, ea⟩
    unfold s_D_wishAsBallot
    rw [e2, e3, e16, ← or_nI hx, ← sh w hw s hs]
    have : s = 0 ∨ s = 1 := by omega
    rcases this with rfl | rfl
    · rw [if_pos (show nI 0 = 0 from rfl)]; rfl
    · rw [if_neg (show ¬ nI 1 = 0 by decide)]; rfl
  have hs2 : ∃ s, s < 2 ∧ F 16 = nI s := by
    rcases hs with h | h
    · exact ⟨0, by decide, h⟩
    · exact ⟨1, by decide, h⟩
  obtain ⟨s, hs3, es⟩ := hs2
  rcases h with ⟨e2, e3, ea⟩ | ⟨e2, e3, ea⟩ | ⟨e2, e3, ea⟩
  · exact key 0 0 s (by decide) (by decide) hs3 (Or.inr rfl) e2 e3 es ea
  · exact key 1 0 s (by decide) (by decide) hs3 (Or.inr rfl) e2 e3 es ea
  · obtain ⟨n, hn, en⟩ := is16_nI e3
    exact key 2 n s (by decide) hn hs3 (Or.inl rfl) e2 en es (by rw [ea, en]; rfl)
theorem neg_nI {x : Nat} (hx : x < 65536) : ¬ (-1 : Int32) = nI x ∧ ¬ (-2 : Int32) = nI x := by
  have h0 : ¬ nI x < 0 := by
    intro h
    have := (nI_ltI (a := x) (b := 0) (by omega) (by omega)).mp h
    omega
  constructor
  · intro h; rw [← h] at h0; exact h0 (by decide)
  · intro h; rw [← h] at h0; exact h0 (by decide)
theorem bal_iff {F G : Nat → Int32} {a b : Int32} (h : wr (F 2) (F 3) a) (hs : F 16 = 0 ∨ F 16 = 1) (k : wr (G 2) (G 3) b) (ks : G 16 = 0 ∨ G 16 = 1) : s_D_wishAsBallot F = s_D_wishAsBallot G ↔ (a = b ∧ F 16 = G 16) := by
  obtain ⟨w, x, s, hw, hx, hs2, h0, e16, eb, ea⟩ := bal_nI h hs
  obtain ⟨w', x', s', hw', hx', hs2', h0', e16', eb', ea'⟩ := bal_nI k ks
  rw [eb, eb', ea, ea', e16, e16']
  constructor
  · intro e
    have e := nI_inj (by omega) (by omega) e
    have : w = w' ∧ x = x' ∧ s = s' := by omega
    obtain ⟨rfl, rfl, rfl⟩ := this
    exact ⟨rfl, rfl⟩
  · rintro ⟨e, e2⟩
    have e2 := nI_inj (by omega) (by omega) e2
    subst e2
    have hw3 : w = 0 ∨ w = 1 ∨ w = 2 := by omega
    have hw3' : w' = 0 ∨ w' = 1 ∨ w' = 2 := by omega
    obtain ⟨n1, n2⟩ := neg_nI hx
    obtain ⟨n1', n2'⟩ := neg_nI hx'
    rcases hw3 with rfl | rfl | rfl <;> rcases hw3' with rfl | rfl | rfl
    · have : x = x' := by omega
      rw [this]
    · exact absurd e (show ¬ (-1 : Int32) = -2 by decide)
    · exact absurd e n1'
    · exact absurd e (show ¬ (-2 : Int32) = -1 by decide)
    · have : x = x' := by omega
      rw [this]
    · exact absurd e n2'
    · exact absurd e.symm n1
    · exact absurd e.symm n2
    · have e := nI_inj (a := x) (b := x') (by omega) (by omega) e
      rw [e]
/-! the vote, by truth values -/
def zb (t x : Bool) : Int32 := if t && x then 1 else 0
def cB (t0 t1 t2 x0 x1 x2 : Bool) : Int32 := zb t0 x0 + zb t1 x1 + zb t2 x2
def oP (t0 t1 t2 d01 d02 d12 : Bool) : Int32 :=
  if t0 && decide (cB t0 t1 t2 true d01 d02 = 2) then 0 else if t1 && decide (cB t0 t1 t2 d01 true d12 = 2) then 1 else if t2 && decide (cB t0 t1 t2 d02 d12 true = 2) then 2 else -1
/-- the place of the last of those that are sound -/
def lS (t0 t1 t2 z0 z1 z2 : Bool) : Int32 := if t2 && z2 then 2 else if t1 && z1 then 1 else if t0 && z0 then 0 else -1
def sO (t0 t1 t2 z0 z1 z2 : Bool) : Int32 := if cB t0 t1 t2 z0 z1 z2 = 1 ∧ cB t0 t1 t2 true true true = 2 then lS t0 t1 t2 z0 z1 z2 else -1
theorem cBal (F : Nat → Nat → Int32) (x : Int32) : s_T_countBallots F x = cB (trB (F 0)) (trB (F 1)) (trB (F 2)) (decide (F 0 18 = x)) (decide (F 1 18 = x)) (decide (F 2 18 = x)) := by
  unfold s_T_countBallots s_T_countBallots_cut4_1 s_T_countBallots_cut4_2 s_T_countBallots_cut4_3
  generalize trB (F 0) = t0
  generalize trB (F 1) = t1
  generalize trB (F 2) = t2
  by_cases h0 : F 0 18 = x <;> by_cases h1 : F 1 18 = x <;> by_cases h2 : F 2 18 = x <;> simp only [h0, h1, h2, decide_true, decide_false, if_true, if_false] <;> revert t0 t1 t2 <;> decide
theorem cTru (F : Nat → Nat → Int32) : s_T_countTrusted F = cB (trB (F 0)) (trB (F 1)) (trB (F 2)) true true true := by
  unfold s_T_countTrusted s_T_countTrusted_cut4_1 s_T_countTrusted_cut4_2 s_T_countTrusted_cut4_3
  generalize trB (F 0) = t0
  generalize trB (F 1) = t1
  generalize trB (F 2) = t2
  revert t0 t1 t2
  decide
theorem dcm (x y : Int32) : decide (x = y) = decide (y = x) := by
  by_cases h : x = y
  · rw [h]
  · rw [decide_eq_false h, decide_eq_false (fun e => h e.symm)]
theorem dself (x : Int32) : decide (x = x) = true := decide_eq_true rfl
theorem oPai (F : Nat → Nat → Int32) : s_T_oneOfTheAlikePair F = oP (trB (F 0)) (trB (F 1)) (trB (F 2)) (decide (F 0 18 = F 1 18)) (decide (F 0 18 = F 2 18)) (decide (F 1 18 = F 2 18)) := by
  unfold s_T_oneOfTheAlikePair s_T_oneOfTheAlikePair_cut2_1 s_T_oneOfTheAlikePair_cut2_2 s_T_oneOfTheAlikePair_cut2_3
  simp only [bnd_eq, cBal, dself]
  rw [dcm (F 1 18) (F 0 18), dcm (F 2 18) (F 0 18), dcm (F 2 18) (F 1 18)]
  generalize trB (F 0) = t0
  generalize trB (F 1) = t1
  generalize trB (F 2) = t2
  generalize decide (F 0 18 = F 1 18) = d01
  generalize decide (F 0 18 = F 2 18) = d02
  generalize decide (F 1 18 = F 2 18) = d12
  revert t0 t1 t2 d01 d02 d12
  decide
theorem sOne (F : Nat → Nat → Int32) : s_T_soundOneOfTwo F = sO (trB (F 0)) (trB (F 1)) (trB (F 2)) (decide (F 0 16 = 0)) (decide (F 1 16 = 0)) (decide (F 2 16 = 0)) := by
  unfold s_T_soundOneOfTwo s_T_soundOneOfTwo_cut6_1 s_T_soundOneOfTwo_cut6_2 s_T_soundOneOfTwo_cut6_3
  simp only [bnd_eq, cTru]
  generalize trB (F 0) = t0
  generalize trB (F 1) = t1
  generalize trB (F 2) = t2
  by_cases h0 : F 0 16 = 0 <;> by_cases h1 : F 1 16 = 0 <;> by_cases h2 : F 2 16 = 0 <;> simp only [h0, h1, h2, decide_true, decide_false, if_true, if_false] <;> revert t0 t1 t2 <;> decide
def nU (F : Nat → Int32) (x : Int32) : Nat → Int32 := if trB F && !decide (F 18 = x) then s_D_blameLater F else F
theorem nAll (F : Nat → Nat → Int32) (x : Int32) : s_T_nameAllUnlike F x 0 = nU (F 0) x ∧ s_T_nameAllUnlike F x 1 = nU (F 1) x ∧ s_T_nameAllUnlike F x 2 = nU (F 2) x := by
  unfold s_T_nameAllUnlike s_T_nameAllUnlike_cut2_1 s_T_nameAllUnlike_cut2_2 s_T_nameAllUnlike_cut2_3 nU
  simp only [bnd_eq, tri]
  generalize trB (F 0) = t0
  generalize trB (F 1) = t1
  generalize trB (F 2) = t2
  by_cases h0 : F 0 18 = x <;> by_cases h1 : F 1 18 = x <;> by_cases h2 : F 2 18 = x <;> cases t0 <;> cases t1 <;> cases t2 <;> simp [h0, h1, h2, bI, tri]
def sel (k : Int32) (x0 x1 x2 : Bool) : Bool := if k = 0 then x0 else if k = 1 then x1 else x2
/-- the class's vote: whose wish is agreed, whether not all are alike, who is named -/
def vT (t0 t1 t2 d01 d02 d12 z0 z1 z2 : Bool) : Int32 × Bool × Bool × Bool × Bool :=
  if (if t0 then cB t0 t1 t2 true d01 d02 else if t1 then cB t0 t1 t2 d01 true d12 else cB t0 t1 t2 d02 d12 true) = cB t0 t1 t2 true true true then (if t0 then 0 else if t1 then 1 else 2, false, false, false, false)
  else bnd (if oP t0 t1 t2 d01 d02 d12 = -1 then sO t0 t1 t2 z0 z1 z2 else oP t0 t1 t2 d01 d02 d12) (fun ag => if ag = -1 then (-1, true, false, false, false) else (ag, true, t0 && !sel ag true d01 d02, t1 && !sel ag d01 true d12, t2 && !sel ag d02 d12 true))
def vM (t0 t1 t2 l01 l02 l12 z0 z1 z2 : Bool) : Int32 × Bool × Bool × Bool × Bool :=
  if t0 then
    if t1 then
      if t2 then
        if l01 then (if l12 then (0, false, false, false, false) else (0, true, false, false, true))
        else if l02 then (0, true, false, true, false) else if l12 then (1, true, true, false, false) else (-1, true, false, false, false)
      else if l01 then (0, false, false, false, false) else if z0 == z1 then (-1, true, false, false, false) else if z0 then (0, true, false, true, false) else (1, true, true, false, false)
    else if t2 then
      if l02 then (0, false, false, false, false) else if z0 == z2 then (-1, true, false, false, false) else if z0 then (0, true, false, false, true) else (2, true, true, false, false)
    else (0, false, false, false, false)
  else if t1 then
    if t2 then
      if l12 then (1, false, false, false, false) else if z1 == z2 then (-1, true, false, false, false) else if z1 then (1, true, false, false, true) else (2, true, false, true, false)
    else (1, false, false, false, false)
  else (2, false, false, false, false)
theorem vTM : ∀ t0 t1 t2 l01 l02 l12 z0 z1 z2 : Bool, (t0 || t1 || t2) = true → (l01 && l12 && !l02) = false → (l01 && l02 && !l12) = false → (l02 && l12 && !l01) = false → vT t0 t1 t2 l01 l02 l12 z0 z1 z2 = vM t0 t1 t2 l01 l02 l12 z0 z1 z2 := by decide +kernel
theorem vT_d : ∀ t0 t1 t2 d01 d02 d12 l01 l02 l12 z0 z1 z2 : Bool, (t0 = true → t1 = true → d01 = l01) → (t0 = true → t2 = true → d02 = l02) → (t1 = true → t2 = true → d12 = l12) → vT t0 t1 t2 d01 d02 d12 z0 z1 z2 = vT t0 t1 t2 l01 l02 l12 z0 z1 z2 := by
  intro t0 t1 t2 d01 d02 d12 l01 l02 l12 z0 z1 z2 h1 h2 h3
  cases t0 <;> cases t1 <;> cases t2 <;> simp at h1 h2 h3 <;> (try subst h1) <;> (try subst h2) <;> (try subst h3) <;> decide +revert +kernel
def nB (b : Bool) (F : Nat → Int32) : Nat → Int32 := if b then s_D_blameLater F else F
def vCh (uT : Nat → Int32) (F : Nat → Nat → Int32) (ag : Int32) : Int32 × (Nat → Nat → Int32) × Int32 :=
  if ag = (-1) then ((-1), F, upc uT 9 ((uT 9) + (1 : Int32)) 9)
  else if ag = 0 then (0, s_T_nameAllUnlike F (F 0 18), upc uT 9 ((uT 9) + (1 : Int32)) 9)
  else if ag = 1 then (1, s_T_nameAllUnlike F (F 1 18), upc uT 9 ((uT 9) + (1 : Int32)) 9)
  else (2, s_T_nameAllUnlike F (F 2 18), upc uT 9 ((uT 9) + (1 : Int32)) 9)
def vAg (F : Nat → Nat → Int32) : Int32 := if s_T_oneOfTheAlikePair F = -1 then s_T_soundOneOfTwo F else s_T_oneOfTheAlikePair F
theorem v3_eq (uT : Nat → Int32) (F : Nat → Nat → Int32) (w1 : Int32) : s_T_vote_cut14_3 uT F w1 = if w1 = 0 then (if s_T_countBallots F (F 0 18) = s_T_countTrusted F then (0, F, uT 9) else vCh uT F (vAg F)) else if w1 = 1 then (if s_T_countBallots F (F 1 18) = s_T_countTrusted F then (1, F, uT 9) else vCh uT F (vAg F)) else (if s_T_countBallots F (F 2 18) = s_T_countTrusted F then (2, F, uT 9) else vCh uT F (vAg F)) := by
  unfold s_T_vote_cut14_3 s_T_vote_cv65 vAg vCh
  simp only [bnd_eq]
  by_cases h : s_T_oneOfTheAlikePair F = -1
  · simp only [if_pos h]
  · simp only [if_neg h]
theorem oP_r : ∀ t0 t1 t2 d01 d02 d12 z0 z1 z2 : Bool, (if oP t0 t1 t2 d01 d02 d12 = -1 then sO t0 t1 t2 z0 z1 z2 else oP t0 t1 t2 d01 d02 d12) = -1 ∨ (if oP t0 t1 t2 d01 d02 d12 = -1 then sO t0 t1 t2 z0 z1 z2 else oP t0 t1 t2 d01 d02 d12) = 0 ∨ (if oP t0 t1 t2 d01 d02 d12 = -1 then sO t0 t1 t2 z0 z1 z2 else oP t0 t1 t2 d01 d02 d12) = 1 ∨ (if oP t0 t1 t2 d01 d02 d12 = -1 then sO t0 t1 t2 z0 z1 z2 else oP t0 t1 t2 d01 d02 d12) = 2 := by decide +kernel
def vOf (F : Nat → Nat → Int32) : Int32 × Bool × Bool × Bool × Bool := vT (trB (F 0)) (trB (F 1)) (trB (F 2)) (decide (F 0 18 = F 1 18)) (decide (F 0 18 = F 2 18)) (decide (F 1 18 = F 2 18)) (decide (F 0 16 = 0)) (decide (F 1 16 = 0)) (decide (F 2 16 = 0))
def vRes (uT : Nat → Int32) (F : Nat → Nat → Int32) (V : Int32 × Bool × Bool × Bool × Bool) (R : Int32 × (Nat → Nat → Int32) × Int32) : Prop := R.1 = V.1 ∧ R.2.2 = (if V.2.1 then uT 9 + 1 else uT 9) ∧ R.2.1 0 = nB V.2.2.1 (F 0) ∧ R.2.1 1 = nB V.2.2.2.1 (F 1) ∧ R.2.1 2 = nB V.2.2.2.2 (F 2)
theorem vCh_r (uT : Nat → Int32) (F : Nat → Nat → Int32) : vRes uT F (bnd (if oP (trB (F 0)) (trB (F 1)) (trB (F 2)) (decide (F 0 18 = F 1 18)) (decide (F 0 18 = F 2 18)) (decide (F 1 18 = F 2 18)) = -1 then sO (trB (F 0)) (trB (F 1)) (trB (F 2)) (decide (F 0 16 = 0)) (decide (F 1 16 = 0)) (decide (F 2 16 = 0)) else oP (trB (F 0)) (trB (F 1)) (trB (F 2)) (decide (F 0 18 = F 1 18)) (decide (F 0 18 = F 2 18)) (decide (F 1 18 = F 2 18))) (fun ag => if ag = -1 then (-1, true, false, false, false) else (ag, true, trB (F 0) && !sel ag true (decide (F 0 18 = F 1 18)) (decide (F 0 18 = F 2 18)), trB (F 1) && !sel ag (decide (F 0 18 = F 1 18)) true (decide (F 1 18 = F 2 18)), trB (F 2) && !sel ag (decide (F 0 18 = F 2 18)) (decide (F 1 18 = F 2 18)) true))) (vCh uT F (vAg F)) := by
  have hr := oP_r (trB (F 0)) (trB (F 1)) (trB (F 2)) (decide (F 0 18 = F 1 18)) (decide (F 0 18 = F 2 18)) (decide (F 1 18 = F 2 18)) (decide (F 0 16 = 0)) (decide (F 1 16 = 0)) (decide (F 2 16 = 0))
  have e : vAg F = (if oP (trB (F 0)) (trB (F 1)) (trB (F 2)) (decide (F 0 18 = F 1 18)) (decide (F 0 18 = F 2 18)) (decide (F 1 18 = F 2 18)) = -1 then sO (trB (F 0)) (trB (F 1)) (trB (F 2)) (decide (F 0 16 = 0)) (decide (F 1 16 = 0)) (decide (F 2 16 = 0)) else oP (trB (F 0)) (trB (F 1)) (trB (F 2)) (decide (F 0 18 = F 1 18)) (decide (F 0 18 = F 2 18)) (decide (F 1 18 = F 2 18))) := by
    unfold vAg
    rw [oPai, sOne]
  rw [e]
  generalize (if oP (trB (F 0)) (trB (F 1)) (trB (F 2)) (decide (F 0 18 = F 1 18)) (decide (F 0 18 = F 2 18)) (decide (F 1 18 = F 2 18)) = -1 then sO (trB (F 0)) (trB (F 1)) (trB (F 2)) (decide (F 0 16 = 0)) (decide (F 1 16 = 0)) (decide (F 2 16 = 0)) else oP (trB (F 0)) (trB (F 1)) (trB (F 2)) (decide (F 0 18 = F 1 18)) (decide (F 0 18 = F 2 18)) (decide (F 1 18 = F 2 18))) = ag at *
  unfold vCh
  rw [bnd_eq]
  rcases hr with rfl | rfl | rfl | rfl
  · exact ⟨rfl, rfl, rfl, rfl, rfl⟩
  · obtain ⟨n0, n1, n2⟩ := nAll F (F 0 18)
    refine ⟨rfl, rfl, n0.trans ?_, n1.trans ?_, n2.trans ?_⟩
    · show nU (F 0) (F 0 18) = nB (trB (F 0) && !true) (F 0)
      unfold nU nB; rw [dself]
    · show nU (F 1) (F 0 18) = nB (trB (F 1) && !decide (F 0 18 = F 1 18)) (F 1)
      unfold nU nB; rw [dcm]
    · show nU (F 2) (F 0 18) = nB (trB (F 2) && !decide (F 0 18 = F 2 18)) (F 2)
      unfold nU nB; rw [dcm]
  · obtain ⟨n0, n1, n2⟩ := nAll F (F 1 18)
    refine ⟨rfl, rfl, n0.trans ?_, n1.trans ?_, n2.trans ?_⟩
    · show nU (F 0) (F 1 18) = nB (trB (F 0) && !decide (F 0 18 = F 1 18)) (F 0)
      unfold nU nB; rfl
    · show nU (F 1) (F 1 18) = nB (trB (F 1) && !true) (F 1)
      unfold nU nB; rw [dself]
    · show nU (F 2) (F 1 18) = nB (trB (F 2) && !decide (F 1 18 = F 2 18)) (F 2)
      unfold nU nB; rw [dcm]
  · obtain ⟨n0, n1, n2⟩ := nAll F (F 2 18)
    refine ⟨rfl, rfl, n0.trans ?_, n1.trans ?_, n2.trans ?_⟩
    · show nU (F 0) (F 2 18) = nB (trB (F 0) && !decide (F 0 18 = F 2 18)) (F 0)
      unfold nU nB; rfl
    · show nU (F 1) (F 2 18) = nB (trB (F 1) && !decide (F 1 18 = F 2 18)) (F 1)
      unfold nU nB; rfl
    · show nU (F 2) (F 2 18) = nB (trB (F 2) && !true) (F 2)
      unfold nU nB; rw [dself]
theorem v3_r (uT : Nat → Int32) (F : Nat → Nat → Int32) : vRes uT F (vOf F) (s_T_vote_cut14_3 uT F (if trB (F 0) then 0 else if trB (F 1) then 1 else 2)) := by
  have hc := vCh_r uT F
  rw [v3_eq]
  unfold vOf vT
  rw [cBal, cBal, cBal, cTru, dself, dself, dself, dcm (F 1 18) (F 0 18), dcm (F 2 18) (F 0 18), dcm (F 2 18) (F 1 18)]
  generalize vCh uT F (vAg F) = C at *
  generalize (bnd (if oP (trB (F 0)) (trB (F 1)) (trB (F 2)) (decide (F 0 18 = F 1 18)) (decide (F 0 18 = F 2 18)) (decide (F 1 18 = F 2 18)) = -1 then sO (trB (F 0)) (trB (F 1)) (trB (F 2)) (decide (F 0 16 = 0)) (decide (F 1 16 = 0)) (decide (F 2 16 = 0)) else oP (trB (F 0)) (trB (F 1)) (trB (F 2)) (decide (F 0 18 = F 1 18)) (decide (F 0 18 = F 2 18)) (decide (F 1 18 = F 2 18))) (fun ag => if ag = -1 then (-1, true, false, false, false) else (ag, true, trB (F 0) && !sel ag true (decide (F 0 18 = F 1 18)) (decide (F 0 18 = F 2 18)), trB (F 1) && !sel ag (decide (F 0 18 = F 1 18)) true (decide (F 1 18 = F 2 18)), trB (F 2) && !sel ag (decide (F 0 18 = F 2 18)) (decide (F 1 18 = F 2 18)) true)) : Int32 × Bool × Bool × Bool × Bool) = D at *
  cases h0 : trB (F 0)
  · cases h1 : trB (F 1)
    · simp only [Bool.false_eq_true, if_false]
      rw [if_neg (show ¬ (2 : Int32) = 0 by decide), if_neg (show ¬ (2 : Int32) = 1 by decide)]
      split
      · exact ⟨rfl, rfl, rfl, rfl, rfl⟩
      · exact hc
    · simp only [Bool.false_eq_true, if_false, if_true]
      rw [if_neg (show ¬ (1 : Int32) = 0 by decide)]
      split
      · exact ⟨rfl, rfl, rfl, rfl, rfl⟩
      · exact hc
  · simp only [if_true]
    split
    · exact ⟨rfl, rfl, rfl, rfl, rfl⟩
    · exact hc
def vMof (a11 a18 a19 : Nat → Int32) : Int32 × Bool × Bool × Bool × Bool := vM (decide (a11 0 = 0)) (decide (a11 1 = 0)) (decide (a11 2 = 0)) (decide (a18 0 = a18 1 ∧ a19 0 = a19 1)) (decide (a18 0 = a18 2 ∧ a19 0 = a19 2)) (decide (a18 1 = a18 2 ∧ a19 1 = a19 2)) (decide (a19 0 = 0)) (decide (a19 1 = 0)) (decide (a19 2 = 0))
def vResM (uM a23 : Nat → Int32) (V : Int32 × Bool × Bool × Bool × Bool) (R : Int32 × (Nat → Int32) × Int32) : Prop := R.1 = V.1 ∧ R.2.2 = (if V.2.1 then uM 7 + 1 else uM 7) ∧ R.2.1 0 = (if V.2.2.1 then 1 else a23 0) ∧ R.2.1 1 = (if V.2.2.2.1 then 1 else a23 1) ∧ R.2.1 2 = (if V.2.2.2.2 then 1 else a23 2)
theorem isLike_b (a18 a19 : Nat → Int32) (mi nj : Int32) : s_M_isLike a18 a19 mi nj = bI (decide (a18 (Int32.toNatClampNeg mi) = a18 (Int32.toNatClampNeg nj) ∧ a19 (Int32.toNatClampNeg mi) = a19 (Int32.toNatClampNeg nj))) := by
  unfold s_M_isLike
  by_cases h : a18 (Int32.toNatClampNeg mi) = a18 (Int32.toNatClampNeg nj)
  · by_cases k : a19 (Int32.toNatClampNeg mi) = a19 (Int32.toNatClampNeg nj)
    · rw [if_pos h, if_pos k, decide_eq_true ⟨h, k⟩]; rfl
    · rw [if_pos h, if_neg k, decide_eq_false (fun e => k e.2)]; rfl
  · rw [if_neg h, decide_eq_false (fun e => h e.1)]; rfl
theorem zz {x y : Int32} (hx : x = 0 ∨ x = 1) (hy : y = 0 ∨ y = 1) : (decide (x = 0) == decide (y = 0)) = decide (x = y) := by
  rcases hx with rfl | rfl <;> rcases hy with rfl | rfl <;> decide
theorem vote_M {uM a11 a18 a19 a23 : Nat → Int32} (hin : s3 a11) (f0 : a11 0 = 0 → a19 0 = 0 ∨ a19 0 = 1) (f1 : a11 1 = 0 → a19 1 = 0 ∨ a19 1 = 1) (f2 : a11 2 = 0 → a19 2 = 0 ∨ a19 2 = 1) : vResM uM a23 (vMof a11 a18 a19) (s_M_vote uM a11 a18 a19 a23) := by
  unfold s_M_vote vMof
  simp only [bnd_eq, isLike_b]
  rw [show Int32.toNatClampNeg 0 = 0 from rfl, show Int32.toNatClampNeg 1 = 1 from rfl, show Int32.toNatClampNeg 2 = 2 from rfl]
  generalize decide (a18 0 = a18 1 ∧ a19 0 = a19 1) = l01
  generalize decide (a18 0 = a18 2 ∧ a19 0 = a19 2) = l02
  generalize decide (a18 1 = a18 2 ∧ a19 1 = a19 2) = l12
  by_cases e0 : a11 0 = 0
  · rw [if_pos e0, decide_eq_true e0]
    by_cases e1 : a11 1 = 0
    · rw [if_pos e1, decide_eq_true e1]
      by_cases e2 : a11 2 = 0
      · rw [if_pos e2, decide_eq_true e2]
        cases l01 <;> cases l02 <;> cases l12 <;> exact ⟨rfl, rfl, rfl, rfl, rfl⟩
      · rw [if_neg e2, decide_eq_false e2]
        cases l01
        · unfold vM
          rw [zz (f0 e0) (f1 e1)]
          by_cases k : a19 0 = a19 1
          · rw [if_pos (show bI false = 0 from rfl), if_pos k, decide_eq_true k]
            exact ⟨rfl, rfl, rfl, rfl, rfl⟩
          · rw [if_pos (show bI false = 0 from rfl), if_neg k, decide_eq_false k]
            by_cases z : a19 0 = 0
            · rw [if_pos z, decide_eq_true z]; exact ⟨rfl, rfl, rfl, rfl, rfl⟩
            · rw [if_neg z, decide_eq_false z]; exact ⟨rfl, rfl, rfl, rfl, rfl⟩
        · exact ⟨rfl, rfl, rfl, rfl, rfl⟩
    · rw [if_neg e1, decide_eq_false e1]
      by_cases e2 : a11 2 = 0
      · rw [if_pos e2, decide_eq_true e2]
        cases l02
        · unfold vM
          rw [zz (f0 e0) (f2 e2)]
          by_cases k : a19 0 = a19 2
          · rw [if_pos (show bI false = 0 from rfl), if_pos k, decide_eq_true k]
            exact ⟨rfl, rfl, rfl, rfl, rfl⟩
          · rw [if_pos (show bI false = 0 from rfl), if_neg k, decide_eq_false k]
            by_cases z : a19 0 = 0
            · rw [if_pos z, decide_eq_true z]; exact ⟨rfl, rfl, rfl, rfl, rfl⟩
            · rw [if_neg z, decide_eq_false z]; exact ⟨rfl, rfl, rfl, rfl, rfl⟩
        · exact ⟨rfl, rfl, rfl, rfl, rfl⟩
      · rw [if_neg e2, decide_eq_false e2]
        exact ⟨rfl, rfl, rfl, rfl, rfl⟩
  · rw [if_neg e0, decide_eq_false e0]
    by_cases e1 : a11 1 = 0
    · rw [if_pos e1, decide_eq_true e1]
      by_cases e2 : a11 2 = 0
      · rw [if_pos e2, decide_eq_true e2]
        cases l12
        · unfold vM
          rw [zz (f1 e1) (f2 e2)]
          by_cases k : a19 1 = a19 2
          · rw [if_pos (show bI false = 0 from rfl), if_pos k, decide_eq_true k]
            exact ⟨rfl, rfl, rfl, rfl, rfl⟩
          · rw [if_pos (show bI false = 0 from rfl), if_neg k, decide_eq_false k]
            by_cases z : a19 1 = 0
            · rw [if_pos z, decide_eq_true z]; exact ⟨rfl, rfl, rfl, rfl, rfl⟩
            · rw [if_neg z, decide_eq_false z]; exact ⟨rfl, rfl, rfl, rfl, rfl⟩
        · exact ⟨rfl, rfl, rfl, rfl, rfl⟩
      · rw [if_neg e2, decide_eq_false e2]
        exact ⟨rfl, rfl, rfl, rfl, rfl⟩
    · rw [if_neg e1, decide_eq_false e1]
      have e2 : a11 2 = 0 := by
        rcases hin with h | h | h
        · exact absurd h e0
        · exact absurd h e1
        · exact h
      rw [if_pos e2, decide_eq_true e2]
      exact ⟨rfl, rfl, rfl, rfl, rfl⟩
theorem vM_r : ∀ t0 t1 t2 l01 l02 l12 z0 z1 z2 : Bool, (t0 || t1 || t2) = true → (vM t0 t1 t2 l01 l02 l12 z0 z1 z2).1 = -1 ∨ ((vM t0 t1 t2 l01 l02 l12 z0 z1 z2).1 = 0 ∧ t0 = true) ∨ ((vM t0 t1 t2 l01 l02 l12 z0 z1 z2).1 = 1 ∧ t1 = true) ∨ ((vM t0 t1 t2 l01 l02 l12 z0 z1 z2).1 = 2 ∧ t2 = true) := by decide +kernel
theorem vT_z : ∀ t0 t1 t2 d01 d02 d12 z0 z1 z2 w0 w1 w2 : Bool, (t0 = true → z0 = w0) → (t1 = true → z1 = w1) → (t2 = true → z2 = w2) → vT t0 t1 t2 d01 d02 d12 z0 z1 z2 = vT t0 t1 t2 d01 d02 d12 w0 w1 w2 := by
  intro t0 t1 t2 d01 d02 d12 z0 z1 z2 w0 w1 w2 h1 h2 h3
  cases t0 <;> cases t1 <;> cases t2 <;> simp at h1 h2 h3 <;> (try subst h1) <;> (try subst h2) <;> (try subst h3) <;> decide +revert +kernel
theorem lowT (F : Nat → Nat → Int32) : s_T_lowestTrusted F = if trB (F 0) then 0 else if trB (F 1) then 1 else if trB (F 2) then 2 else -1 := by
  unfold s_T_lowestTrusted s_T_lowestTrusted_cut2_1 s_T_lowestTrusted_cut2_2 s_T_lowestTrusted_cut2_3
  generalize trB (F 0) = t0
  generalize trB (F 1) = t1
  generalize trB (F 2) = t2
  revert t0 t1 t2
  decide
def bF (F : Nat → Nat → Int32) : Nat → Nat → Int32 := tri (upc (F 0) 18 (s_D_wishAsBallot (F 0))) (upc (F 1) 18 (s_D_wishAsBallot (F 1))) (upc (F 2) 18 (s_D_wishAsBallot (F 2)))
theorem vote_T (uT : Nat → Int32) (F : Nat → Nat → Int32) (h : (trB (F 0) || trB (F 1) || trB (F 2)) = true) : vRes uT (bF F) (vOf (bF F)) (s_T_vote uT F) := by
  have hv := v3_r uT (bF F)
  have e : s_T_vote uT F = s_T_vote_cut14_3 uT (bF F) (if trB (bF F 0) then 0 else if trB (bF F 1) then 1 else 2) := by
    rw [show trB (bF F 0) = trB (F 0) from rfl, show trB (bF F 1) = trB (F 1) from rfl]
    unfold s_T_vote
    rw [lowT, bnd_eq]
    cases h0 : trB (F 0)
    · cases h1 : trB (F 1)
      · cases h2 : trB (F 2)
        · rw [h0, h1, h2] at h
          exact absurd h (by decide)
        · rfl
      · rfl
    · rfl
  rw [e]
  exact hv
/-- what the vote keeps of a module -/
def kF (F G : Nat → Int32) : Prop := ∀ j, ¬ j = 14 → ¬ j = 15 → ¬ j = 18 → G j = F j
theorem kF_r (F : Nat → Int32) : kF F F := fun _ _ _ _ => rfl
theorem kF_t {F G H : Nat → Int32} (h : kF F G) (k : kF G H) : kF F H := fun j a b c => (k j a b c).trans (h j a b c)
theorem kF_n (b : Bool) (F : Nat → Int32) (x : Int32) : kF F (nB b (upc F 18 x)) := by
  intro j h1 h2 h3
  unfold nB s_D_blameLater upc
  cases b
  · simp [h3]
  · simp [h1, h2, h3]
theorem nB_15 (b : Bool) (F : Nat → Int32) : nB b F 15 = if b then 1 else F 15 := by
  cases b <;> rfl
theorem kF_b (b : Bool) (F : Nat → Int32) : kF F (nB b F) := by
  intro j h1 h2 h3
  unfold nB s_D_blameLater upc
  cases b
  · rfl
  · simp [h1, h2]
theorem and3 {a b c : Int32} (h : a = b ∧ c = c) : a = b := h.1
theorem vote_rel {uT uM a11 a18 a19 a23 : Nat → Int32} {F : Nat → Nat → Int32} (hin : s3 a11) (h9 : uT 9 = uM 7) (h8 : ∀ i, i < 3 → F i 8 = a11 i) (h15 : ∀ i, i < 3 → F i 15 = 0 ∧ a23 i = 0) (hb : ∀ i, i < 3 → a11 i = 0 → wr (F i 2) (F i 3) (a18 i) ∧ F i 16 = a19 i ∧ (a19 i = 0 ∨ a19 i = 1)) :
    (s_T_vote uT F).1 = (s_M_vote uM a11 a18 a19 a23).1 ∧ (s_T_vote uT F).2.2 = (s_M_vote uM a11 a18 a19 a23).2.2 ∧ (∀ i, i < 3 → (s_T_vote uT F).2.1 i 15 = (s_M_vote uM a11 a18 a19 a23).2.1 i ∧ ((s_M_vote uM a11 a18 a19 a23).2.1 i = 0 ∨ (s_M_vote uM a11 a18 a19 a23).2.1 i = 1) ∧ kF (F i) ((s_T_vote uT F).2.1 i)) ∧ ((s_M_vote uM a11 a18 a19 a23).1 = -1 ∨ ((s_M_vote uM a11 a18 a19 a23).1 = 0 ∧ a11 0 = 0) ∨ ((s_M_vote uM a11 a18 a19 a23).1 = 1 ∧ a11 1 = 0) ∨ ((s_M_vote uM a11 a18 a19 a23).1 = 2 ∧ a11 2 = 0)) := by
  have et : ∀ i, i < 3 → trB (F i) = decide (a11 i = 0) := fun i hi => by
    unfold trB
    rw [h8 i hi, (h15 i hi).1]
    simp
  have hor : (decide (a11 0 = 0) || decide (a11 1 = 0) || decide (a11 2 = 0)) = true := by
    rcases hin with h | h | h <;> simp [h]
  have hT := vote_T uT F (by rw [et 0 (by decide), et 1 (by decide), et 2 (by decide)]; exact hor)
  have hM := vote_M (uM := uM) (a23 := a23) (a18 := a18) hin (fun h => (hb 0 (by decide) h).2.2) (fun h => (hb 1 (by decide) h).2.2) (fun h => (hb 2 (by decide) h).2.2)
  have eV : vOf (bF F) = vMof a11 a18 a19 := by
    have k : ∀ i j, i < 3 → j < 3 → decide (a11 i = 0) = true → decide (a11 j = 0) = true → decide (s_D_wishAsBallot (F i) = s_D_wishAsBallot (F j)) = decide (a18 i = a18 j ∧ a19 i = a19 j) := fun i j hi hj ei ej => by
      have ei := of_decide_eq_true ei
      have ej := of_decide_eq_true ej
      obtain ⟨w1, s1, f1⟩ := hb i hi ei
      obtain ⟨w2, s2, f2⟩ := hb j hj ej
      have := bal_iff w1 (by rw [s1]; exact f1) w2 (by rw [s2]; exact f2)
      rw [s1, s2] at this
      exact decide_eq_decide.mpr this
    have z : ∀ i, i < 3 → decide (a11 i = 0) = true → decide (F i 16 = 0) = decide (a19 i = 0) := fun i hi ei => by
      rw [(hb i hi (of_decide_eq_true ei)).2.1]
    show vT (trB (F 0)) (trB (F 1)) (trB (F 2)) (decide (s_D_wishAsBallot (F 0) = s_D_wishAsBallot (F 1))) (decide (s_D_wishAsBallot (F 0) = s_D_wishAsBallot (F 2))) (decide (s_D_wishAsBallot (F 1) = s_D_wishAsBallot (F 2))) (decide (F 0 16 = 0)) (decide (F 1 16 = 0)) (decide (F 2 16 = 0)) = _
    rw [et 0 (by decide), et 1 (by decide), et 2 (by decide)]
    rw [vT_d _ _ _ _ _ _ _ _ _ _ _ _ (k 0 1 (by decide) (by decide)) (k 0 2 (by decide) (by decide)) (k 1 2 (by decide) (by decide))]
    rw [vT_z _ _ _ _ _ _ _ _ _ _ _ _ (z 0 (by decide)) (z 1 (by decide)) (z 2 (by decide))]
    unfold vMof
    refine vTM _ _ _ _ _ _ _ _ _ hor ?_ ?_ ?_
    · by_cases p : a18 0 = a18 1 ∧ a19 0 = a19 1
      · by_cases q : a18 1 = a18 2 ∧ a19 1 = a19 2
        · simp [p.1, p.2, q.1, q.2]
        · simp [q]
      · simp [p]
    · by_cases p : a18 0 = a18 1 ∧ a19 0 = a19 1
      · by_cases q : a18 0 = a18 2 ∧ a19 0 = a19 2
        · simp [p.1.symm, p.2.symm, q.1, q.2]
        · simp [q]
      · simp [p]
    · by_cases p : a18 0 = a18 2 ∧ a19 0 = a19 2
      · by_cases q : a18 1 = a18 2 ∧ a19 1 = a19 2
        · simp [p.1, p.2, q.1, q.2]
        · simp [q]
      · simp [p]
  rw [eV] at hT
  have hr := vM_r (decide (a11 0 = 0)) (decide (a11 1 = 0)) (decide (a11 2 = 0)) (decide (a18 0 = a18 1 ∧ a19 0 = a19 1)) (decide (a18 0 = a18 2 ∧ a19 0 = a19 2)) (decide (a18 1 = a18 2 ∧ a19 1 = a19 2)) (decide (a19 0 = 0)) (decide (a19 1 = 0)) (decide (a19 2 = 0)) hor
  rw [show vM (decide (a11 0 = 0)) (decide (a11 1 = 0)) (decide (a11 2 = 0)) (decide (a18 0 = a18 1 ∧ a19 0 = a19 1)) (decide (a18 0 = a18 2 ∧ a19 0 = a19 2)) (decide (a18 1 = a18 2 ∧ a19 1 = a19 2)) (decide (a19 0 = 0)) (decide (a19 1 = 0)) (decide (a19 2 = 0)) = vMof a11 a18 a19 from rfl] at hr
  generalize vMof a11 a18 a19 = V at *
  generalize s_T_vote uT F = R at *
  generalize s_M_vote uM a11 a18 a19 a23 = Q at *
  obtain ⟨t1, t2, t3, t4, t5⟩ := hT
  obtain ⟨m1, m2, m3, m4, m5⟩ := hM
  refine ⟨t1.trans m1.symm, ?_, ?_, ?_⟩
  · rw [t2, m2, h9]
  · intro i hi
    have h3 : i = 0 ∨ i = 1 ∨ i = 2 := by omega
    rcases h3 with rfl | rfl | rfl
    · rw [t3, m3, (h15 0 (by decide)).2]
      refine ⟨(nB_15 _ _).trans ?_, ?_, kF_n _ _ _⟩
      · rw [show bF F 0 15 = F 0 15 from rfl, (h15 0 (by decide)).1]
      · split
        · exact Or.inr rfl
        · exact Or.inl rfl
    · rw [t4, m4, (h15 1 (by decide)).2]
      refine ⟨(nB_15 _ _).trans ?_, ?_, kF_n _ _ _⟩
      · rw [show bF F 1 15 = F 1 15 from rfl, (h15 1 (by decide)).1]
      · split
        · exact Or.inr rfl
        · exact Or.inl rfl
    · rw [t5, m5, (h15 2 (by decide)).2]
      refine ⟨(nB_15 _ _).trans ?_, ?_, kF_n _ _ _⟩
      · rw [show bF F 2 15 = F 2 15 from rfl, (h15 2 (by decide)).1]
      · split
        · exact Or.inr rfl
        · exact Or.inl rfl
  · rw [m1]
    rcases hr with h | ⟨h, k⟩ | ⟨h, k⟩ | ⟨h, k⟩
    · exact Or.inl h
    · exact Or.inr (Or.inl ⟨h, of_decide_eq_true k⟩)
    · exact Or.inr (Or.inr (Or.inl ⟨h, of_decide_eq_true k⟩))
    · exact Or.inr (Or.inr (Or.inr ⟨h, of_decide_eq_true k⟩))
