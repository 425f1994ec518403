/-! what is agreed is done -/
def rcv (F g : Nat → Int32) (w : Int32) : Nat → Int32 := if F 8 = 0 then s_C_receive_D F g w else g
theorem rcv_w {F g : Nat → Int32} {w : Int32} (hw : is16 w) (h : wdI 8 g) : wdI 8 (rcv F g w) := by
  unfold rcv s_C_receive_D
  split
  · split
    · exact h
    · exact rgI_upd h hw
  · exact h
def mrc (i : Nat) (mi : Int32) (a11 a20 a8 : Nat → Int32) (w : Int32) : Nat → Int32 := if a11 i = 0 then (if a20 i = (-1) then a8 else upd a8 (Int32.toNatClampNeg (((8 : Int32) * mi) + (a20 i))) w) else a8
theorem mrc_rel {i : Nat} {F g a11 a20 a8 : Nat → Int32} (w : Int32) (hi : i < 3) (hg : rg1 i g a8) (h8 : F 8 = a11 i) (h4 : F 4 = a20 i) (ho : optI 8 (a20 i)) : rg1 i (rcv F g w) (mrc i (nI i) a11 a20 a8 w) ∧ fr 8 i a8 (mrc i (nI i) a11 a20 a8 w) := by
  unfold rcv mrc s_C_receive_D
  rw [h8, h4]
  by_cases e : a11 i = 0
  · rw [if_pos e, if_pos e]
    by_cases e2 : a20 i = -1
    · rw [if_pos e2, if_pos e2]
      exact ⟨hg, fr_r _ _ _⟩
    · rw [if_neg e2, if_neg e2]
      obtain ⟨k, hk, ek⟩ := opt_nI ho e2
      rw [ek, clr hk, ad8 hi hk]
      exact ⟨rg1_u w hg hk, fr_u _ _ (by omega) (by omega)⟩
  · rw [if_neg e, if_neg e]
    exact ⟨hg, fr_r _ _ _⟩
def outM (wt : Nat) (a30 a8 : Nat → Int32) (us : Nat) (w2 : Int32) : (Nat → Int32) × (Nat → Int32) × Nat × Nat := if 0 ≤ w2 then (if 300 ≤ (nI wt) then (a8, a30, us, wt + 1) else (a8, upd a30 (Int32.toNatClampNeg (nI wt)) w2, us, wt + 1)) else (a8, a30, us, wt)
theorem cut49 (wt : Nat) (a11 a20 a30 a8 : Nat → Int32) (us2 : Nat) (w2 w3 : Int32) : s_M_agreed_cut49_0 wt a11 a20 a30 a8 us2 w2 w3 = outM wt a30 (mrc 2 2 a11 a20 (mrc 1 1 a11 a20 (mrc 0 0 a11 a20 a8 w3) w3) w3) us2 w2 := by
  unfold s_M_agreed_cut49_0 s_M_agreed_cut49_1 s_M_agreed_cut49_2 s_M_agreed_cut49_3 outM mrc
  by_cases h0 : a11 0 = 0 <;> by_cases h1 : a11 1 = 0 <;> by_cases h2 : a11 2 = 0 <;> by_cases k0 : a20 0 = -1 <;> by_cases k1 : a20 1 = -1 <;> by_cases k2 : a20 2 = -1 <;> simp only [h0, h1, h2, k0, k1, k2, if_true, if_false]
theorem agr3 {F g : Nat → Nat → Int32} {a11 a20 a8 : Nat → Int32} (w : Int32) (hg : ∀ i, i < 3 → rg1 i (g i) a8) (h8 : ∀ i, i < 3 → F i 8 = a11 i) (h4 : ∀ i, i < 3 → F i 4 = a20 i) (ho : ∀ i, i < 3 → optI 8 (a20 i)) : ∀ i, i < 3 → rg1 i (rcv (F i) (g i) w) (mrc 2 2 a11 a20 (mrc 1 1 a11 a20 (mrc 0 0 a11 a20 a8 w) w) w) := by
  obtain ⟨p0, f0⟩ := mrc_rel w (show 0 < 3 by decide) (hg 0 (by decide)) (h8 0 (by decide)) (h4 0 (by decide)) (ho 0 (by decide))
  obtain ⟨p1, f1⟩ := mrc_rel w (show 1 < 3 by decide) (rg1_f (hg 1 (by decide)) f0 (by decide)) (h8 1 (by decide)) (h4 1 (by decide)) (ho 1 (by decide))
  obtain ⟨p2, f2⟩ := mrc_rel w (show 2 < 3 by decide) (rg1_f (rg1_f (hg 2 (by decide)) f0 (by decide)) f1 (by decide)) (h8 2 (by decide)) (h4 2 (by decide)) (ho 2 (by decide))
  intro i hi
  have h3 : i = 0 ∨ i = 1 ∨ i = 2 := by omega
  rcases h3 with rfl | rfl | rfl
  · exact rg1_f (rg1_f p0 f1 (by decide)) f2 (by decide)
  · exact rg1_f p1 f2 (by decide)
  · exact p2
theorem nn_nI {n : Nat} (h : n < 65536) : (0 : Int32) ≤ nI n := (nI_leI (a := 0) (b := n) (by omega) (by omega)).mpr (Nat.zero_le _)
theorem cut39_0 (uT : Nat → Int32) (F : Nat → Nat → Int32) (y10 : Int32) (g : Nat → Nat → Int32) (ko2 : Nat) (kp2 : Nat → Int32) (w2 : Int32) : ∃ g', s_T_doWhatIsAgreed0_cut39_0 uT F y10 g ko2 kp2 w2 = (g', ko2, kp2, y10) ∧ ∀ i, i < 3 → g' i = rcv (F i) (g i) w2 := by
  have a3 : ∀ g' : Nat → Nat → Int32, g' 0 = rcv (F 0) (g 0) w2 → g' 1 = rcv (F 1) (g 1) w2 → g' 2 = rcv (F 2) (g 2) w2 → ∀ i, i < 3 → g' i = rcv (F i) (g i) w2 := fun g' h0 h1 h2 i hi => by
    have h3 : i = 0 ∨ i = 1 ∨ i = 2 := by omega
    rcases h3 with rfl | rfl | rfl
    · exact h0
    · exact h1
    · exact h2
  unfold s_T_doWhatIsAgreed0_cut39_0 s_T_doWhatIsAgreed0_cut39_1 s_T_doWhatIsAgreed0_cut39_2 s_T_doWhatIsAgreed0_cut39_3
  simp only [bnd_eq]
  unfold rcv at *
  by_cases h0 : F 0 8 = 0 <;> by_cases h1 : F 1 8 = 0 <;> by_cases h2 : F 2 8 = 0 <;> simp only [h0, h1, h2, if_true, if_false] at a3 ⊢ <;> exact ⟨_, rfl, a3 _ rfl rfl rfl⟩
theorem agreed_0 {uT : Nat → Int32} {F g : Nat → Nat → Int32} {kN ko us : Nat} {wN kp a8 a11 a18 a20 : Nat → Int32} (hw : wr (F 0 2) (F 0 3) (a18 0)) (hu : uT 10 = nI us) (hk : kN ≤ 64) (hus : us ≤ kN) (hg : ∀ i, i < 3 → rg1 i (g i) a8) (h8 : ∀ i, i < 3 → F i 8 = a11 i) (h4 : ∀ i, i < 3 → F i 4 = a20 i) (ho : ∀ i, i < 3 → optI 8 (a20 i)) (hwd : ∀ i, i < 3 → wdI 8 (g i)) (hwN : wdI 64 wN) :
    ∃ g' ko' kp' us' b8, s_T_doWhatIsAgreed0 uT F g kN wN ko kp = (g', ko', kp', nI us') ∧ s_M_agreed kN us ko a8 a11 a18 a20 wN kp 0 = (b8, kp', us', ko') ∧ us' ≤ kN ∧ ∀ i, i < 3 → rg1 i (g' i) b8 ∧ wdI 8 (g' i) := by
  unfold s_T_doWhatIsAgreed0 s_M_agreed
  rw [show Int32.toNatClampNeg 0 = 0 from rfl]
  simp only [cut49]
  rcases hw with ⟨e2, e3, ea⟩ | ⟨e2, e3, ea⟩ | ⟨e2, e3, ea⟩
  · rw [e2, ea, if_neg (by decide), if_neg (by decide), if_neg (by decide)]
    obtain ⟨g', e, hg'⟩ := cut39_0 uT F (uT 10) g ko kp 0
    rw [e, hu]
    refine ⟨g', ko, kp, us, _, rfl, rfl, hus, fun i hi => ?_⟩
    rw [hg' i hi]
    exact ⟨agr3 0 hg h8 h4 ho i hi, rcv_w is16_0 (hwd i hi)⟩
  · rw [e2, ea, if_pos rfl, if_pos rfl]
    unfold s_T_takeWord
    simp only [bnd_eq]
    have hneg : ¬ uT 10 < 0 := by
      rw [hu]
      intro h
      have := (nI_ltI (a := us) (b := 0) (by omega) (by omega)).mp h
      omega
    unfold s_N_wordAt
    rw [if_neg hneg, hu]
    by_cases hl : nI kN ≤ nI us
    · rw [if_pos hl, if_pos hl, if_pos hl]
      obtain ⟨g', e, hg'⟩ := cut39_0 uT F (nI us) g ko kp 0
      refine ⟨g', ko, kp, us, _, e, rfl, hus, fun i hi => ?_⟩
      rw [hg' i hi]
      exact ⟨agr3 0 hg h8 h4 ho i hi, rcv_w is16_0 (hwd i hi)⟩
    · have hlt : us < kN := Nat.not_le.mp fun h => hl ((nI_leI (by omega) (by omega)).mpr h)
      rw [if_neg hl, if_neg hl, if_neg hl]
      obtain ⟨g', e, hg'⟩ := cut39_0 uT F (nI us + 1) g ko kp (wN (Int32.toNatClampNeg (nI us)))
      refine ⟨g', ko, kp, us + 1, _, ?_, rfl, hlt, fun i hi => ?_⟩
      · rw [← nI_1]; exact e
      · rw [hg' i hi]
        exact ⟨agr3 _ hg h8 h4 ho i hi, rcv_w (by rw [nI_clamp (show us < 2 ^ 31 by omega)]; exact hwN us (by omega)) (hwd i hi)⟩
  · obtain ⟨n, hn, en⟩ := is16_nI e3
    obtain ⟨n1, n2⟩ := neg_nI hn
    rw [e2, ea, en, if_neg (by decide), if_pos rfl, if_neg (fun h => n2 h.symm)]
    unfold outM s_O_add
    rw [if_pos (nn_nI hn), bnd_eq, hu]
    by_cases h3 : 300 ≤ nI ko
    · rw [if_pos h3, if_pos h3]
      obtain ⟨g', e, hg'⟩ := cut39_0 uT F (nI us) g (ko + 1) kp 0
      refine ⟨g', ko + 1, kp, us, _, e, rfl, hus, fun i hi => ?_⟩
      rw [hg' i hi]
      exact ⟨agr3 0 hg h8 h4 ho i hi, rcv_w is16_0 (hwd i hi)⟩
    · rw [if_neg h3, if_neg h3]
      obtain ⟨g', e, hg'⟩ := cut39_0 uT F (nI us) g (ko + 1) (upd kp (Int32.toNatClampNeg (nI ko)) (nI n)) 0
      refine ⟨g', ko + 1, _, us, _, e, rfl, hus, fun i hi => ?_⟩
      rw [hg' i hi]
      exact ⟨agr3 0 hg h8 h4 ho i hi, rcv_w is16_0 (hwd i hi)⟩
theorem cut39_1 (uT : Nat → Int32) (F : Nat → Nat → Int32) (y10 : Int32) (g : Nat → Nat → Int32) (ko2 : Nat) (kp2 : Nat → Int32) (w2 : Int32) : ∃ g', s_T_doWhatIsAgreed1_cut39_0 uT F y10 g ko2 kp2 w2 = (g', ko2, kp2, y10) ∧ ∀ i, i < 3 → g' i = rcv (F i) (g i) w2 := by
  have a3 : ∀ g' : Nat → Nat → Int32, g' 0 = rcv (F 0) (g 0) w2 → g' 1 = rcv (F 1) (g 1) w2 → g' 2 = rcv (F 2) (g 2) w2 → ∀ i, i < 3 → g' i = rcv (F i) (g i) w2 := fun g' h0 h1 h2 i hi => by
    have h3 : i = 0 ∨ i = 1 ∨ i = 2 := by omega
    rcases h3 with rfl | rfl | rfl
    · exact h0
    · exact h1
    · exact h2
  unfold s_T_doWhatIsAgreed1_cut39_0 s_T_doWhatIsAgreed1_cut39_1 s_T_doWhatIsAgreed1_cut39_2 s_T_doWhatIsAgreed1_cut39_3
  simp only [bnd_eq]
  unfold rcv at *
  by_cases h0 : F 0 8 = 0 <;> by_cases h1 : F 1 8 = 0 <;> by_cases h2 : F 2 8 = 0 <;> simp only [h0, h1, h2, if_true, if_false] at a3 ⊢ <;> exact ⟨_, rfl, a3 _ rfl rfl rfl⟩
theorem agreed_1 {uT : Nat → Int32} {F g : Nat → Nat → Int32} {kN ko us : Nat} {wN kp a8 a11 a18 a20 : Nat → Int32} (hw : wr (F 1 2) (F 1 3) (a18 1)) (hu : uT 10 = nI us) (hk : kN ≤ 64) (hus : us ≤ kN) (hg : ∀ i, i < 3 → rg1 i (g i) a8) (h8 : ∀ i, i < 3 → F i 8 = a11 i) (h4 : ∀ i, i < 3 → F i 4 = a20 i) (ho : ∀ i, i < 3 → optI 8 (a20 i)) (hwd : ∀ i, i < 3 → wdI 8 (g i)) (hwN : wdI 64 wN) :
    ∃ g' ko' kp' us' b8, s_T_doWhatIsAgreed1 uT F g kN wN ko kp = (g', ko', kp', nI us') ∧ s_M_agreed kN us ko a8 a11 a18 a20 wN kp 1 = (b8, kp', us', ko') ∧ us' ≤ kN ∧ ∀ i, i < 3 → rg1 i (g' i) b8 ∧ wdI 8 (g' i) := by
  unfold s_T_doWhatIsAgreed1 s_M_agreed
  rw [show Int32.toNatClampNeg 1 = 1 from rfl]
  simp only [cut49]
  rcases hw with ⟨e2, e3, ea⟩ | ⟨e2, e3, ea⟩ | ⟨e2, e3, ea⟩
  · rw [e2, ea, if_neg (by decide), if_neg (by decide), if_neg (by decide)]
    obtain ⟨g', e, hg'⟩ := cut39_1 uT F (uT 10) g ko kp 0
    rw [e, hu]
    refine ⟨g', ko, kp, us, _, rfl, rfl, hus, fun i hi => ?_⟩
    rw [hg' i hi]
    exact ⟨agr3 0 hg h8 h4 ho i hi, rcv_w is16_0 (hwd i hi)⟩
  · rw [e2, ea, if_pos rfl, if_pos rfl]
    unfold s_T_takeWord
    simp only [bnd_eq]
    have hneg : ¬ uT 10 < 0 := by
      rw [hu]
      intro h
      have := (nI_ltI (a := us) (b := 0) (by omega) (by omega)).mp h
      omega
    unfold s_N_wordAt
    rw [if_neg hneg, hu]
    by_cases hl : nI kN ≤ nI us
    · rw [if_pos hl, if_pos hl, if_pos hl]
      obtain ⟨g', e, hg'⟩ := cut39_1 uT F (nI us) g ko kp 0
      refine ⟨g', ko, kp, us, _, e, rfl, hus, fun i hi => ?_⟩
      rw [hg' i hi]
      exact ⟨agr3 0 hg h8 h4 ho i hi, rcv_w is16_0 (hwd i hi)⟩
    · have hlt : us < kN := Nat.not_le.mp fun h => hl ((nI_leI (by omega) (by omega)).mpr h)
      rw [if_neg hl, if_neg hl, if_neg hl]
      obtain ⟨g', e, hg'⟩ := cut39_1 uT F (nI us + 1) g ko kp (wN (Int32.toNatClampNeg (nI us)))
      refine ⟨g', ko, kp, us + 1, _, ?_, rfl, hlt, fun i hi => ?_⟩
      · rw [← nI_1]; exact e
      · rw [hg' i hi]
        exact ⟨agr3 _ hg h8 h4 ho i hi, rcv_w (by rw [nI_clamp (show us < 2 ^ 31 by omega)]; exact hwN us (by omega)) (hwd i hi)⟩
  · obtain ⟨n, hn, en⟩ := is16_nI e3
    obtain ⟨n1, n2⟩ := neg_nI hn
    rw [e2, ea, en, if_neg (by decide), if_pos rfl, if_neg (fun h => n2 h.symm)]
    unfold outM s_O_add
    rw [if_pos (nn_nI hn), bnd_eq, hu]
    by_cases h3 : 300 ≤ nI ko
    · rw [if_pos h3, if_pos h3]
      obtain ⟨g', e, hg'⟩ := cut39_1 uT F (nI us) g (ko + 1) kp 0
      refine ⟨g', ko + 1, kp, us, _, e, rfl, hus, fun i hi => ?_⟩
      rw [hg' i hi]
      exact ⟨agr3 0 hg h8 h4 ho i hi, rcv_w is16_0 (hwd i hi)⟩
    · rw [if_neg h3, if_neg h3]
      obtain ⟨g', e, hg'⟩ := cut39_1 uT F (nI us) g (ko + 1) (upd kp (Int32.toNatClampNeg (nI ko)) (nI n)) 0
      refine ⟨g', ko + 1, _, us, _, e, rfl, hus, fun i hi => ?_⟩
      rw [hg' i hi]
      exact ⟨agr3 0 hg h8 h4 ho i hi, rcv_w is16_0 (hwd i hi)⟩
theorem cut39_2 (uT : Nat → Int32) (F : Nat → Nat → Int32) (y10 : Int32) (g : Nat → Nat → Int32) (ko2 : Nat) (kp2 : Nat → Int32) (w2 : Int32) : ∃ g', s_T_doWhatIsAgreed2_cut39_0 uT F y10 g ko2 kp2 w2 = (g', ko2, kp2, y10) ∧ ∀ i, i < 3 → g' i = rcv (F i) (g i) w2 := by
  have a3 : ∀ g' : Nat → Nat → Int32, g' 0 = rcv (F 0) (g 0) w2 → g' 1 = rcv (F 1) (g 1) w2 → g' 2 = rcv (F 2) (g 2) w2 → ∀ i, i < 3 → g' i = rcv (F i) (g i) w2 := fun g' h0 h1 h2 i hi => by
    have h3 : i = 0 ∨ i = 1 ∨ i = 2 := by omega
    rcases h3 with rfl | rfl | rfl
    · exact h0
    · exact h1
    · exact h2
  unfold s_T_doWhatIsAgreed2_cut39_0 s_T_doWhatIsAgreed2_cut39_1 s_T_doWhatIsAgreed2_cut39_2 s_T_doWhatIsAgreed2_cut39_3
  simp only [bnd_eq]
  unfold rcv at *
  by_cases h0 : F 0 8 = 0 <;> by_cases h1 : F 1 8 = 0 <;> by_cases h2 : F 2 8 = 0 <;> simp only [h0, h1, h2, if_true, if_false] at a3 ⊢ <;> exact ⟨_, rfl, a3 _ rfl rfl rfl⟩
theorem agreed_2 {uT : Nat → Int32} {F g : Nat → Nat → Int32} {kN ko us : Nat} {wN kp a8 a11 a18 a20 : Nat → Int32} (hw : wr (F 2 2) (F 2 3) (a18 2)) (hu : uT 10 = nI us) (hk : kN ≤ 64) (hus : us ≤ kN) (hg : ∀ i, i < 3 → rg1 i (g i) a8) (h8 : ∀ i, i < 3 → F i 8 = a11 i) (h4 : ∀ i, i < 3 → F i 4 = a20 i) (ho : ∀ i, i < 3 → optI 8 (a20 i)) (hwd : ∀ i, i < 3 → wdI 8 (g i)) (hwN : wdI 64 wN) :
    ∃ g' ko' kp' us' b8, s_T_doWhatIsAgreed2 uT F g kN wN ko kp = (g', ko', kp', nI us') ∧ s_M_agreed kN us ko a8 a11 a18 a20 wN kp 2 = (b8, kp', us', ko') ∧ us' ≤ kN ∧ ∀ i, i < 3 → rg1 i (g' i) b8 ∧ wdI 8 (g' i) := by
  unfold s_T_doWhatIsAgreed2 s_M_agreed
  rw [show Int32.toNatClampNeg 2 = 2 from rfl]
  simp only [cut49]
  rcases hw with ⟨e2, e3, ea⟩ | ⟨e2, e3, ea⟩ | ⟨e2, e3, ea⟩
  · rw [e2, ea, if_neg (by decide), if_neg (by decide), if_neg (by decide)]
    obtain ⟨g', e, hg'⟩ := cut39_2 uT F (uT 10) g ko kp 0
    rw [e, hu]
    refine ⟨g', ko, kp, us, _, rfl, rfl, hus, fun i hi => ?_⟩
    rw [hg' i hi]
    exact ⟨agr3 0 hg h8 h4 ho i hi, rcv_w is16_0 (hwd i hi)⟩
  · rw [e2, ea, if_pos rfl, if_pos rfl]
    unfold s_T_takeWord
    simp only [bnd_eq]
    have hneg : ¬ uT 10 < 0 := by
      rw [hu]
      intro h
      have := (nI_ltI (a := us) (b := 0) (by omega) (by omega)).mp h
      omega
    unfold s_N_wordAt
    rw [if_neg hneg, hu]
    by_cases hl : nI kN ≤ nI us
    · rw [if_pos hl, if_pos hl, if_pos hl]
      obtain ⟨g', e, hg'⟩ := cut39_2 uT F (nI us) g ko kp 0
      refine ⟨g', ko, kp, us, _, e, rfl, hus, fun i hi => ?_⟩
      rw [hg' i hi]
      exact ⟨agr3 0 hg h8 h4 ho i hi, rcv_w is16_0 (hwd i hi)⟩
    · have hlt : us < kN := Nat.not_le.mp fun h => hl ((nI_leI (by omega) (by omega)).mpr h)
      rw [if_neg hl, if_neg hl, if_neg hl]
      obtain ⟨g', e, hg'⟩ := cut39_2 uT F (nI us + 1) g ko kp (wN (Int32.toNatClampNeg (nI us)))
      refine ⟨g', ko, kp, us + 1, _, ?_, rfl, hlt, fun i hi => ?_⟩
      · rw [← nI_1]; exact e
      · rw [hg' i hi]
        exact ⟨agr3 _ hg h8 h4 ho i hi, rcv_w (by rw [nI_clamp (show us < 2 ^ 31 by omega)]; exact hwN us (by omega)) (hwd i hi)⟩
  · obtain ⟨n, hn, en⟩ := is16_nI e3
    obtain ⟨n1, n2⟩ := neg_nI hn
    rw [e2, ea, en, if_neg (by decide), if_pos rfl, if_neg (fun h => n2 h.symm)]
    unfold outM s_O_add
    rw [if_pos (nn_nI hn), bnd_eq, hu]
    by_cases h3 : 300 ≤ nI ko
    · rw [if_pos h3, if_pos h3]
      obtain ⟨g', e, hg'⟩ := cut39_2 uT F (nI us) g (ko + 1) kp 0
      refine ⟨g', ko + 1, kp, us, _, e, rfl, hus, fun i hi => ?_⟩
      rw [hg' i hi]
      exact ⟨agr3 0 hg h8 h4 ho i hi, rcv_w is16_0 (hwd i hi)⟩
    · rw [if_neg h3, if_neg h3]
      obtain ⟨g', e, hg'⟩ := cut39_2 uT F (nI us) g (ko + 1) (upd kp (Int32.toNatClampNeg (nI ko)) (nI n)) 0
      refine ⟨g', ko + 1, _, us, _, e, rfl, hus, fun i hi => ?_⟩
      rw [hg' i hi]
      exact ⟨agr3 0 hg h8 h4 ho i hi, rcv_w is16_0 (hwd i hi)⟩
/-! stores in copies -/
theorem all3 {P : Nat → Prop} (h0 : P 0) (h1 : P 1) (h2 : P 2) : ∀ i, i < 3 → P i := fun i hi => by
  have h3 : i = 0 ∨ i = 1 ∨ i = 2 := by omega
  rcases h3 with rfl | rfl | rfl
  · exact h0
  · exact h1
  · exact h2
theorem q0n : ((0 : Int32) = -1) = False := eq_false (by decide)
theorem q1n : ((1 : Int32) = -1) = False := eq_false (by decide)
theorem q2n : ((2 : Int32) = -1) = False := eq_false (by decide)
theorem q10 : ((1 : Int32) = 0) = False := eq_false (by decide)
theorem q20 : ((2 : Int32) = 0) = False := eq_false (by decide)
theorem q21 : ((2 : Int32) = 1) = False := eq_false (by decide)
theorem q01 : ((0 : Int32) = 1) = False := eq_false (by decide)
theorem qn0 : ((-1 : Int32) = 0) = False := eq_false (by decide)
def tSt (F v : Nat → Int32) (pl wd : Int32) : Nat → Int32 := if F 8 = 1 then (if F 9 ≤ pl then v else s_D_writeWord v pl wd) else v
def mSt (i : Nat) (mi : Int32) (a11 a12 a9 : Nat → Int32) (pl wd : Int32) : Nat → Int32 := if a11 i = 1 then (if a12 i ≤ pl then a9 else upd a9 (Int32.toNatClampNeg (((32 : Int32) * mi) + pl)) (s_M_encode wd)) else a9
theorem st_rel {i p n : Nat} {F v a11 a12 a9 : Nat → Int32} (hi : i < 3) (hp : p < 32) (hn : n < 65536) (hv : rv1 i v a9) (h8 : F 8 = a11 i) (h9 : F 8 = 1 → F 9 = a12 i) : rv1 i (tSt F v (nI p) (nI n)) (mSt i (nI i) a11 a12 a9 (nI p) (nI n)) ∧ fr 32 i a9 (mSt i (nI i) a11 a12 a9 (nI p) (nI n)) := by
  unfold tSt mSt
  by_cases e : a11 i = 1
  · have e' : F 8 = 1 := h8.trans e
    rw [if_pos e, if_pos e', h9 e']
    by_cases e2 : a12 i ≤ nI p
    · rw [if_pos e2, if_pos e2]
      exact ⟨hv, fr_r _ _ _⟩
    · rw [if_neg e2, if_neg e2, ad32 hi hp]
      unfold s_D_writeWord
      obtain ⟨c, hc, ec⟩ := enc_nI (n := n) (by omega)
      rw [ofw_enc (by omega), ec, bnd_eq, nI_clamp (by omega)]
      exact ⟨rv1_u hv hp ⟨c, hc, rfl⟩, fr_u _ _ (by omega) (by omega)⟩
  · rw [if_neg e, if_neg (fun h => e (h8.symm.trans h))]
    exact ⟨hv, fr_r _ _ _⟩
def trM (a11 a23 : Nat → Int32) (i : Nat) : Bool := decide (a11 i = 0) && decide (a23 i = 0)
theorem lowM (a11 a23 : Nat → Int32) : s_M_lowest a11 a23 1 = if trM a11 a23 0 then 0 else if trM a11 a23 1 then 1 else if trM a11 a23 2 then 2 else -1 := by
  unfold s_M_lowest trM
  by_cases h0 : a11 0 = 0 <;> by_cases h1 : a11 1 = 0 <;> by_cases h2 : a11 2 = 0 <;> by_cases k0 : a23 0 = 0 <;> by_cases k1 : a23 1 = 0 <;> by_cases k2 : a23 2 = 0 <;> simp [h0, h1, h2, k0, k1, k2]
theorem trTM {F : Nat → Nat → Int32} {a11 a23 : Nat → Int32} (h8 : ∀ i, i < 3 → F i 8 = a11 i) (h15 : ∀ i, i < 3 → F i 15 = a23 i) : ∀ i, i < 3 → trB (F i) = trM a11 a23 i := fun i hi => by
  unfold trB trM
  rw [h8 i hi, h15 i hi]
theorem cut36_0 (F v : Nat → Nat → Int32) (pl : Int32) : ∀ i, i < 3 → s_T_storeInCopies_cut36_0 F v 0 pl i = tSt (F i) (v i) pl (F 0 6) := by
  unfold s_T_storeInCopies_cut36_0 s_T_storeInCopies_cut36_1 s_T_storeInCopies_cut36_2 s_T_storeInCopies_cut36_3 tSt
  simp only [bnd_eq, show ((0 : Int32) = 0) = True from eq_true rfl, show ((1 : Int32) = 0) = False from eq_false (by decide), show ((2 : Int32) = 0) = False from eq_false (by decide), show ((1 : Int32) = 1) = True from eq_true rfl, show ((2 : Int32) = 1) = False from eq_false (by decide), if_true, if_false]
  by_cases h0 : F 0 8 = 1 <;> by_cases h1 : F 1 8 = 1 <;> by_cases h2 : F 2 8 = 1 <;> by_cases k0 : F 0 9 ≤ pl <;> by_cases k1 : F 1 9 ≤ pl <;> by_cases k2 : F 2 9 ≤ pl <;> (refine all3 ?_ ?_ ?_ <;> simp only [h0, h1, h2, k0, k1, k2, if_true, if_false] <;> rfl)
theorem mcut_0 (a11 a12 a21 a22 a9 : Nat → Int32) : s_M_copyStore_cut0_24_0 a11 a12 a21 a22 a9 = mSt 2 2 a11 a12 (mSt 1 1 a11 a12 (mSt 0 0 a11 a12 a9 (a21 0) (a22 0)) (a21 0) (a22 0)) (a21 0) (a22 0) := by
  unfold s_M_copyStore_cut0_24_0 s_M_copyStore_cut0_24_1 s_M_copyStore_cut0_24_2 s_M_copyStore_cut0_24_3 mSt
  simp only [bnd_eq]
  by_cases h0 : a11 0 = 1 <;> by_cases h1 : a11 1 = 1 <;> by_cases h2 : a11 2 = 1 <;> by_cases k0 : a12 0 ≤ a21 0 <;> by_cases k1 : a12 1 ≤ a21 0 <;> by_cases k2 : a12 2 ≤ a21 0 <;> simp only [h0, h1, h2, k0, k1, k2, if_true, if_false]
theorem cut36_1 (F v : Nat → Nat → Int32) (pl : Int32) : ∀ i, i < 3 → s_T_storeInCopies_cut36_0 F v 1 pl i = tSt (F i) (v i) pl (F 1 6) := by
  unfold s_T_storeInCopies_cut36_0 s_T_storeInCopies_cut36_1 s_T_storeInCopies_cut36_2 s_T_storeInCopies_cut36_3 tSt
  simp only [bnd_eq, show ((0 : Int32) = 0) = True from eq_true rfl, show ((1 : Int32) = 0) = False from eq_false (by decide), show ((2 : Int32) = 0) = False from eq_false (by decide), show ((1 : Int32) = 1) = True from eq_true rfl, show ((2 : Int32) = 1) = False from eq_false (by decide), if_true, if_false]
  by_cases h0 : F 0 8 = 1 <;> by_cases h1 : F 1 8 = 1 <;> by_cases h2 : F 2 8 = 1 <;> by_cases k0 : F 0 9 ≤ pl <;> by_cases k1 : F 1 9 ≤ pl <;> by_cases k2 : F 2 9 ≤ pl <;> (refine all3 ?_ ?_ ?_ <;> simp only [h0, h1, h2, k0, k1, k2, if_true, if_false] <;> rfl)
theorem mcut_1 (a11 a12 a21 a22 a9 : Nat → Int32) : s_M_copyStore_cut1_24_0 a11 a12 a21 a22 a9 = mSt 2 2 a11 a12 (mSt 1 1 a11 a12 (mSt 0 0 a11 a12 a9 (a21 1) (a22 1)) (a21 1) (a22 1)) (a21 1) (a22 1) := by
  unfold s_M_copyStore_cut1_24_0 s_M_copyStore_cut1_24_1 s_M_copyStore_cut1_24_2 s_M_copyStore_cut1_24_3 mSt
  simp only [bnd_eq]
  by_cases h0 : a11 0 = 1 <;> by_cases h1 : a11 1 = 1 <;> by_cases h2 : a11 2 = 1 <;> by_cases k0 : a12 0 ≤ a21 1 <;> by_cases k1 : a12 1 ≤ a21 1 <;> by_cases k2 : a12 2 ≤ a21 1 <;> simp only [h0, h1, h2, k0, k1, k2, if_true, if_false]
theorem cut36_2 (F v : Nat → Nat → Int32) (pl : Int32) : ∀ i, i < 3 → s_T_storeInCopies_cut36_0 F v 2 pl i = tSt (F i) (v i) pl (F 2 6) := by
  unfold s_T_storeInCopies_cut36_0 s_T_storeInCopies_cut36_1 s_T_storeInCopies_cut36_2 s_T_storeInCopies_cut36_3 tSt
  simp only [bnd_eq, show ((0 : Int32) = 0) = True from eq_true rfl, show ((1 : Int32) = 0) = False from eq_false (by decide), show ((2 : Int32) = 0) = False from eq_false (by decide), show ((1 : Int32) = 1) = True from eq_true rfl, show ((2 : Int32) = 1) = False from eq_false (by decide), if_true, if_false]
  by_cases h0 : F 0 8 = 1 <;> by_cases h1 : F 1 8 = 1 <;> by_cases h2 : F 2 8 = 1 <;> by_cases k0 : F 0 9 ≤ pl <;> by_cases k1 : F 1 9 ≤ pl <;> by_cases k2 : F 2 9 ≤ pl <;> (refine all3 ?_ ?_ ?_ <;> simp only [h0, h1, h2, k0, k1, k2, if_true, if_false] <;> rfl)
theorem mcut_2 (a11 a12 a21 a22 a9 : Nat → Int32) : s_M_copyStore_cut2_24_0 a11 a12 a21 a22 a9 = mSt 2 2 a11 a12 (mSt 1 1 a11 a12 (mSt 0 0 a11 a12 a9 (a21 2) (a22 2)) (a21 2) (a22 2)) (a21 2) (a22 2) := by
  unfold s_M_copyStore_cut2_24_0 s_M_copyStore_cut2_24_1 s_M_copyStore_cut2_24_2 s_M_copyStore_cut2_24_3 mSt
  simp only [bnd_eq]
  by_cases h0 : a11 0 = 1 <;> by_cases h1 : a11 1 = 1 <;> by_cases h2 : a11 2 = 1 <;> by_cases k0 : a12 0 ≤ a21 2 <;> by_cases k1 : a12 1 ≤ a21 2 <;> by_cases k2 : a12 2 ≤ a21 2 <;> simp only [h0, h1, h2, k0, k1, k2, if_true, if_false]
theorem st3 {p n : Nat} {F v : Nat → Nat → Int32} {a11 a12 a9 : Nat → Int32} (hp : p < 32) (hn : n < 65536) (hv : ∀ i, i < 3 → rv1 i (v i) a9) (h8 : ∀ i, i < 3 → F i 8 = a11 i) (h9 : ∀ i, i < 3 → F i 8 = 1 → F i 9 = a12 i) : ∀ i, i < 3 → rv1 i (tSt (F i) (v i) (nI p) (nI n)) (mSt 2 2 a11 a12 (mSt 1 1 a11 a12 (mSt 0 0 a11 a12 a9 (nI p) (nI n)) (nI p) (nI n)) (nI p) (nI n)) := by
  obtain ⟨p0, f0⟩ := st_rel (show 0 < 3 by decide) hp hn (hv 0 (by decide)) (h8 0 (by decide)) (h9 0 (by decide))
  obtain ⟨p1, f1⟩ := st_rel (show 1 < 3 by decide) hp hn (rv1_f (hv 1 (by decide)) f0 (by decide)) (h8 1 (by decide)) (h9 1 (by decide))
  obtain ⟨p2, f2⟩ := st_rel (show 2 < 3 by decide) hp hn (rv1_f (rv1_f (hv 2 (by decide)) f0 (by decide)) f1 (by decide)) (h8 2 (by decide)) (h9 2 (by decide))
  exact all3 (rv1_f (rv1_f p0 f1 (by decide)) f2 (by decide)) (rv1_f p1 f2 (by decide)) p2
theorem store_rel {F v : Nat → Nat → Int32} {a9 a11 a12 a21 a22 a23 : Nat → Int32} (hv : ∀ i, i < 3 → rv1 i (v i) a9) (h8 : ∀ i, i < 3 → F i 8 = a11 i) (h9 : ∀ i, i < 3 → F i 8 = 1 → F i 9 = a12 i) (h15 : ∀ i, i < 3 → F i 15 = a23 i) (h5 : ∀ i, i < 3 → F i 5 = a21 i) (ho : ∀ i, i < 3 → optI 32 (a21 i)) (h6 : ∀ i, i < 3 → F i 5 = -1 ∨ (F i 6 = a22 i ∧ is16 (F i 6))) : ∀ i, i < 3 → rv1 i (s_T_storeInCopies F v i) (s_M_copyStore a9 a11 a12 a21 a22 a23) := by
  have key : ∀ l, l < 3 → ¬ a21 l = -1 → ∃ p n, p < 32 ∧ n < 65536 ∧ F l 5 = nI p ∧ a21 l = nI p ∧ F l 6 = nI n ∧ a22 l = nI n := fun l hl e => by
    obtain ⟨p, hp, ep⟩ := opt_nI (ho l hl) e
    rcases h6 l hl with h | ⟨h, h2⟩
    · exact absurd ((h5 l hl).symm.trans h) e
    · obtain ⟨n, hn, en⟩ := is16_nI h2
      exact ⟨p, n, hp, hn, (h5 l hl).trans ep, ep, en, h.symm.trans en⟩
  unfold s_T_storeInCopies s_M_copyStore
  rw [lowT, lowM, trTM h8 h15 0 (by decide), trTM h8 h15 1 (by decide), trTM h8 h15 2 (by decide), bnd_eq, bnd_eq]
  cases trM a11 a23 0
  · cases trM a11 a23 1
    · cases trM a11 a23 2
      · exact hv
      · simp only [Bool.false_eq_true, if_false, if_true, q0n, q1n, q2n, q10, q20, q21]
        rw [h5 2 (by decide)]
        by_cases e : a21 2 = -1
        · rw [if_pos e, if_pos e]; exact hv
        · rw [if_neg e, if_neg e]
          obtain ⟨p, n, hp, hn, e5, e21, e6, e22⟩ := key 2 (by decide) e
          intro i hi
          rw [cut36_2 F v (a21 2) i hi, mcut_2, e21, e22, e6]
          exact st3 hp hn hv h8 h9 i hi
    · simp only [Bool.false_eq_true, if_false, if_true, q0n, q1n, q2n, q10, q20, q21]
      rw [h5 1 (by decide)]
      by_cases e : a21 1 = -1
      · rw [if_pos e, if_pos e]; exact hv
      · rw [if_neg e, if_neg e]
        obtain ⟨p, n, hp, hn, e5, e21, e6, e22⟩ := key 1 (by decide) e
        intro i hi
        rw [cut36_1 F v (a21 1) i hi, mcut_1, e21, e22, e6]
        exact st3 hp hn hv h8 h9 i hi
  · simp only [if_true, if_false, q0n, q1n, q2n, q10, q20, q21]
    rw [h5 0 (by decide)]
    by_cases e : a21 0 = -1
    · rw [if_pos e, if_pos e]; exact hv
    · rw [if_neg e, if_neg e]
      obtain ⟨p, n, hp, hn, e5, e21, e6, e22⟩ := key 0 (by decide) e
      intro i hi
      rw [cut36_0 F v (a21 0) i hi, mcut_0, e21, e22, e6]
      exact st3 hp hn hv h8 h9 i hi
/-! the scrub -/
def tSc (F v : Nat → Int32) (pl : Int32) : (Nat → Int32) × (Nat → Int32) × Int32 :=
  if bI (trB F) = 0 then (upc F 17 (0 : Int32), v, 0)
  else bnd (s_D_findsSpoilt F v pl) (fun (r, x, cd) => if r = 0 then (upc (upc F 13 x) 17 (0 : Int32), cd, 0) else (upc (upc F 13 x) 17 (1 : Int32), cd, 1))
/-- what the scrub keeps of a module, the naming aside -/
def kG (F G : Nat → Int32) : Prop := ∀ j, ¬ j = 13 → ¬ j = 17 → G j = F j
def hR (t s : Bool) (i : Nat) (pl : Int32) (a9 a16 b9 b16 : Nat → Int32) : Prop := (t = true ∧ ∃ wd, s_M_read a9 a16 (nI i) pl = (wd, b9, b16, bI s)) ∨ (t = false ∧ b9 = a9 ∧ b16 = a16 ∧ s = false)
theorem sc_rel {i p : Nat} {F v a9 a16 : Nat → Int32} (hi : i < 3) (hp : p < 32) (hv : rv1 i v a9) : ∃ s F' v' b9 b16, tSc F v (nI p) = (F', v', bI s) ∧ F' 17 = bI s ∧ kG F F' ∧ hR (trB F) s i (nI p) a9 a16 b9 b16 ∧ rv1 i v' b9 ∧ fr 32 i a9 b9 := by
  unfold tSc
  cases ht : trB F
  · exact ⟨false, _, _, a9, a16, rfl, rfl, fun j h1 h2 => by simp [upc, h2], Or.inr ⟨rfl, rfl, rfl, rfl⟩, hv, fr_r _ _ _⟩
  · rw [if_neg (show ¬ bI true = 0 by decide)]
    obtain ⟨ev, n, hn, en⟩ := hv p hp
    obtain ⟨r, x, n', A, hr, hn', eD, eM⟩ := rd_eq (F := F) (cd := v) (a9 := a9) (a16 := a16) (i := i) hn hp hi en (by rw [← ev]; exact en)
    rw [eD]
    simp only [bnd_eq]
    have hv2 : rv1 i (upd v p (nI n')) (upd a9 (32 * i + p) (nI n')) := rv1_u hv hp ⟨n', hn', rfl⟩
    have hf2 : fr 32 i a9 (upd a9 (32 * i + p) (nI n')) := fr_u _ _ (by omega) (by omega)
    rcases hr with rfl | rfl
    · rw [if_pos rfl]
      exact ⟨false, _, _, _, A, rfl, rfl, fun j h1 h2 => by simp [upc, h1, h2], Or.inl ⟨rfl, _, eM⟩, hv2, hf2⟩
    · rw [if_neg (show ¬ (1 : Int32) = 0 by decide)]
      exact ⟨true, _, _, _, A, rfl, rfl, fun j h1 h2 => by simp [upc, h1, h2], Or.inl ⟨rfl, _, eM⟩, hv2, hf2⟩
theorem tcut2 {uT : Nat → Int32} {F v : Nat → Nat → Int32} {w : Int32} {s : Bool} {F' v' : Nat → Int32} (h : tSc (F 2) (v 2) ((uT 8) - (uT 8) / (32 : Int32) * (32 : Int32)) = (F', v', bI s)) : ∃ v1, s_T_scrub_cut12_2 uT F v w = s_T_scrub_cut12_3 (tri (F 0) (F 1) F') v1 (w + bI s) ∧ v1 0 = v 0 ∧ v1 1 = v 1 ∧ v1 2 = v' := by
  unfold tSc at h
  unfold s_T_scrub_cut12_2
  generalize trB (F 2) = t at *
  cases t
  · rw [if_pos (show bI false = 0 from rfl)] at h ⊢
    simp only [Prod.mk.injEq] at h
    obtain ⟨rfl, rfl, e⟩ := h
    rw [← e, show w + 0 = w from Int32.add_zero w]
    exact ⟨_, rfl, rfl, rfl, rfl⟩
  · rw [if_neg (show ¬ bI true = 0 by decide)] at h ⊢
    generalize s_D_findsSpoilt (F 2) (v 2) ((uT 8) - (uT 8) / (32 : Int32) * (32 : Int32)) = E at *
    obtain ⟨r, x, cd⟩ := E
    simp only [bnd_eq] at h ⊢
    by_cases e0 : r = 0
    · rw [if_pos e0] at h ⊢
      simp only [Prod.mk.injEq] at h
      obtain ⟨rfl, rfl, e⟩ := h
      rw [← e, show w + 0 = w from Int32.add_zero w]
      exact ⟨_, rfl, rfl, rfl, rfl⟩
    · rw [if_neg e0] at h ⊢
      simp only [Prod.mk.injEq] at h
      obtain ⟨rfl, rfl, e⟩ := h
      rw [← e]
      exact ⟨_, rfl, rfl, rfl, rfl⟩
theorem tcut1 {uT : Nat → Int32} {F v : Nat → Nat → Int32} {w : Int32} {s1 s2 : Bool} {F1 v1 F2 v2 : Nat → Int32} (h1 : tSc (F 1) (v 1) ((uT 8) - (uT 8) / (32 : Int32) * (32 : Int32)) = (F1, v1, bI s1)) (h2 : tSc (F 2) (v 2) ((uT 8) - (uT 8) / (32 : Int32) * (32 : Int32)) = (F2, v2, bI s2)) : ∃ v', s_T_scrub_cut12_1 uT F v w = s_T_scrub_cut12_3 (tri (F 0) F1 F2) v' (w + bI s1 + bI s2) ∧ v' 0 = v 0 ∧ v' 1 = v1 ∧ v' 2 = v2 := by
  unfold tSc at h1
  unfold s_T_scrub_cut12_1
  generalize trB (F 1) = t at *
  cases t
  · rw [if_pos (show bI false = 0 from rfl)] at h1 ⊢
    simp only [Prod.mk.injEq] at h1
    obtain ⟨rfl, rfl, e⟩ := h1
    rw [← e, show w + 0 = w from Int32.add_zero w]
    exact tcut2 (F := tri (F 0) _ (F 2)) h2
  · rw [if_neg (show ¬ bI true = 0 by decide)] at h1 ⊢
    generalize s_D_findsSpoilt (F 1) (v 1) ((uT 8) - (uT 8) / (32 : Int32) * (32 : Int32)) = E at *
    obtain ⟨r, x, cd⟩ := E
    simp only [bnd_eq] at h1 ⊢
    by_cases e0 : r = 0
    · rw [if_pos e0] at h1 ⊢
      simp only [Prod.mk.injEq] at h1
      obtain ⟨rfl, rfl, e⟩ := h1
      rw [← e, show w + 0 = w from Int32.add_zero w]
      exact tcut2 (F := tri (F 0) _ (F 2)) (v := tri (v 0) _ (v 2)) h2
    · rw [if_neg e0] at h1 ⊢
      simp only [Prod.mk.injEq] at h1
      obtain ⟨rfl, rfl, e⟩ := h1
      rw [← e]
      exact tcut2 (F := tri (F 0) _ (F 2)) (v := tri (v 0) _ (v 2)) h2
theorem tcut0 {uT : Nat → Int32} {F v : Nat → Nat → Int32} {s0 s1 s2 : Bool} {F0 v0 F1 v1 F2 v2 : Nat → Int32} (h0 : tSc (F 0) (v 0) ((uT 8) - (uT 8) / (32 : Int32) * (32 : Int32)) = (F0, v0, bI s0)) (h1 : tSc (F 1) (v 1) ((uT 8) - (uT 8) / (32 : Int32) * (32 : Int32)) = (F1, v1, bI s1)) (h2 : tSc (F 2) (v 2) ((uT 8) - (uT 8) / (32 : Int32) * (32 : Int32)) = (F2, v2, bI s2)) : ∃ v', s_T_scrub uT F v = s_T_scrub_cut12_3 (tri F0 F1 F2) v' (bI s0 + bI s1 + bI s2) ∧ v' 0 = v0 ∧ v' 1 = v1 ∧ v' 2 = v2 := by
  unfold tSc at h0
  unfold s_T_scrub
  generalize trB (F 0) = t at *
  cases t
  · rw [if_pos (show bI false = 0 from rfl)] at h0 ⊢
    simp only [Prod.mk.injEq] at h0
    obtain ⟨rfl, rfl, e⟩ := h0
    rw [← e]
    exact tcut1 (F := tri _ (F 1) (F 2)) h1 h2
  · rw [if_neg (show ¬ bI true = 0 by decide)] at h0 ⊢
    generalize s_D_findsSpoilt (F 0) (v 0) ((uT 8) - (uT 8) / (32 : Int32) * (32 : Int32)) = E at *
    obtain ⟨r, x, cd⟩ := E
    simp only [bnd_eq] at h0 ⊢
    by_cases e0 : r = 0
    · rw [if_pos e0] at h0 ⊢
      simp only [Prod.mk.injEq] at h0
      obtain ⟨rfl, rfl, e⟩ := h0
      rw [← e]
      exact tcut1 (F := tri _ (F 1) (F 2)) (v := tri _ (v 1) (v 2)) h1 h2
    · rw [if_neg e0] at h0 ⊢
      simp only [Prod.mk.injEq] at h0
      obtain ⟨rfl, rfl, e⟩ := h0
      rw [← e]
      exact tcut1 (F := tri _ (F 1) (F 2)) (v := tri _ (v 1) (v 2)) h1 h2
theorem tri_a {α : Type} (a b c : α) : tri a b c 0 = a := rfl
theorem tri_b {α : Type} (a b c : α) : tri a b c 1 = b := rfl
theorem tri_c {α : Type} (a b c : α) : tri a b c 2 = c := rfl
theorem tcut3 (F v : Nat → Nat → Int32) (w : Int32) : ∃ F', s_T_scrub_cut12_3 F v w = (if w = s_T_countTrusted F then 0 else 1, F', v) ∧ ∀ i, i < 3 → F' i = if w = s_T_countTrusted F then F i else nB (!decide (F i 17 = 0)) (F i) := by
  unfold s_T_scrub_cut12_3 s_T_scrub_cut89_0 s_T_scrub_cut89_1 s_T_scrub_cut89_2 s_T_scrub_cut89_3 nB
  simp only [bnd_eq]
  by_cases h : w = s_T_countTrusted F
  · rw [if_pos h, if_pos h]
    exact ⟨F, rfl, fun _ _ => (if_pos h).symm⟩
  · rw [if_neg h, if_neg h]
    simp only [if_neg h]
    by_cases h0 : F 0 17 = 0 <;> by_cases h1 : F 1 17 = 0 <;> by_cases h2 : F 2 17 = 0 <;> simp only [tri_a, tri_b, tri_c, h0, h1, h2, if_true, if_false] <;> refine ⟨_, rfl, all3 ?_ ?_ ?_⟩ <;> simp [h0, h1, h2, tri]
/-- the reference's -/
theorem vp_b (s : Bool) : vp_nar .boolean (bI s) = bI s := by cases s <;> decide
def wnx (w : Int32) (t s : Bool) : Int32 := if w = 0 then 0 else if t && !s then 0 else w
theorem mcS2 {uM a9 a11 a16 a19 a23 b9 b16 : Nat → Int32} {sn : Nat} {y24 w : Int32} {s : Bool} (hw : w = 0 ∨ w = 1) (h : hR (trM a11 a23 2) s 2 ((nI sn) - (nI sn) / (32 : Int32) * (32 : Int32)) a9 a16 b9 b16) : ∃ y b19, s_M_scrub_cut4_2 uM sn a11 y24 a9 a16 a19 a23 w = s_M_scrub_cut4_3 uM y b9 b16 b19 a23 (wnx w (trM a11 a23 2) s) ∧ b19 2 = bI s ∧ ∀ j, ¬ j = 2 → b19 j = a19 j := by
  unfold s_M_scrub_cut4_2
  rcases h with ⟨ht, wd, e⟩ | ⟨ht, rfl, rfl, rfl⟩
  · unfold trM at ht
    simp only [Bool.and_eq_true, decide_eq_true_eq] at ht
    rw [if_pos ht.1, if_pos ht.2]
    rw [show nI 2 = 2 from rfl] at e
    rw [e]
    simp only [bnd_eq]
    rw [show upc (upc uM 24 y24) 24 (bI s) 24 = bI s from rfl, vp_b, upd2]
    have ht2 : trM a11 a23 2 = true := by
      unfold trM
      rw [ht.1, ht.2]; rfl
    rw [ht2]
    have hb : upd a19 2 (bI s) 2 = bI s ∧ ∀ j, ¬ j = 2 → upd a19 2 (bI s) j = a19 j := ⟨pk_us, fun j hj => pk_un hj⟩
    rcases hw with rfl | rfl
    · rw [if_pos rfl]
      exact ⟨_, _, rfl, hb⟩
    · rw [if_neg (show ¬ (1 : Int32) = 0 by decide)]
      cases s
      · exact ⟨_, _, rfl, hb⟩
      · exact ⟨_, _, rfl, hb⟩
  · rw [ht]
    have hb : upd a19 2 (0 : Int32) 2 = bI false ∧ ∀ j, ¬ j = 2 → upd a19 2 (0 : Int32) j = a19 j := ⟨pk_us, fun j hj => pk_un hj⟩
    have e1 : ∀ w : Int32, w = 0 ∨ w = 1 → wnx w false false = w := by
      intro w hw
      rcases hw with rfl | rfl <;> decide
    rw [e1 _ hw]
    unfold trM at ht
    by_cases h0 : a11 2 = 0
    · by_cases h1 : a23 2 = 0
      · rw [h0, h1] at ht
        exact absurd ht (by decide)
      · rw [if_pos h0, if_neg h1]
        exact ⟨_, _, rfl, hb⟩
    · rw [if_neg h0]
      exact ⟨_, _, rfl, hb⟩
theorem mcS1 {uM a9 a11 a16 a19 a23 b9 b16 : Nat → Int32} {sn : Nat} {y24 w : Int32} {s : Bool} (hw : w = 0 ∨ w = 1) (h : hR (trM a11 a23 1) s 1 ((nI sn) - (nI sn) / (32 : Int32) * (32 : Int32)) a9 a16 b9 b16) : ∃ y b19, s_M_scrub_cut4_1 uM sn a11 y24 a9 a16 a19 a23 w = s_M_scrub_cut4_2 uM sn a11 y b9 b16 b19 a23 (wnx w (trM a11 a23 1) s) ∧ b19 1 = bI s ∧ ∀ j, ¬ j = 1 → b19 j = a19 j := by
  unfold s_M_scrub_cut4_1
  rcases h with ⟨ht, wd, e⟩ | ⟨ht, rfl, rfl, rfl⟩
  · unfold trM at ht
    simp only [Bool.and_eq_true, decide_eq_true_eq] at ht
    rw [if_pos ht.1, if_pos ht.2]
    rw [show nI 1 = 1 from rfl] at e
    rw [e]
    simp only [bnd_eq]
    rw [show upc (upc uM 24 y24) 24 (bI s) 24 = bI s from rfl, vp_b, upd2]
    have ht2 : trM a11 a23 1 = true := by
      unfold trM
      rw [ht.1, ht.2]; rfl
    rw [ht2]
    have hb : upd a19 1 (bI s) 1 = bI s ∧ ∀ j, ¬ j = 1 → upd a19 1 (bI s) j = a19 j := ⟨pk_us, fun j hj => pk_un hj⟩
    rcases hw with rfl | rfl
    · rw [if_pos rfl]
      exact ⟨_, _, rfl, hb⟩
    · rw [if_neg (show ¬ (1 : Int32) = 0 by decide)]
      cases s
      · exact ⟨_, _, rfl, hb⟩
      · exact ⟨_, _, rfl, hb⟩
  · rw [ht]
    have hb : upd a19 1 (0 : Int32) 1 = bI false ∧ ∀ j, ¬ j = 1 → upd a19 1 (0 : Int32) j = a19 j := ⟨pk_us, fun j hj => pk_un hj⟩
    have e1 : ∀ w : Int32, w = 0 ∨ w = 1 → wnx w false false = w := by
      intro w hw
      rcases hw with rfl | rfl <;> decide
    rw [e1 _ hw]
    unfold trM at ht
    by_cases h0 : a11 1 = 0
    · by_cases h1 : a23 1 = 0
      · rw [h0, h1] at ht
        exact absurd ht (by decide)
      · rw [if_pos h0, if_neg h1]
        exact ⟨_, _, rfl, hb⟩
    · rw [if_neg h0]
      exact ⟨_, _, rfl, hb⟩
theorem mcS0 {uM a9 a11 a16 a19 a23 b9 b16 : Nat → Int32} {sn : Nat} {s : Bool} (h : hR (trM a11 a23 0) s 0 ((nI sn) - (nI sn) / (32 : Int32) * (32 : Int32)) a9 a16 b9 b16) : ∃ y b19, s_M_scrub uM sn a9 a11 a16 a19 a23 = s_M_scrub_cut4_1 uM sn a11 y b9 b16 b19 a23 (wnx 1 (trM a11 a23 0) s) ∧ b19 0 = bI s ∧ ∀ j, ¬ j = 0 → b19 j = a19 j := by
  unfold s_M_scrub
  rcases h with ⟨ht, wd, e⟩ | ⟨ht, rfl, rfl, rfl⟩
  · unfold trM at ht
    simp only [Bool.and_eq_true, decide_eq_true_eq] at ht
    rw [if_pos ht.1, if_pos ht.2]
    rw [show nI 0 = 0 from rfl] at e
    rw [e]
    simp only [bnd_eq]
    rw [show upc uM 24 (bI s) 24 = bI s from rfl, vp_b, upd2]
    have ht2 : trM a11 a23 0 = true := by
      unfold trM
      rw [ht.1, ht.2]; rfl
    rw [ht2]
    have hb : upd a19 0 (bI s) 0 = bI s ∧ ∀ j, ¬ j = 0 → upd a19 0 (bI s) j = a19 j := ⟨pk_us, fun j hj => pk_un hj⟩
    cases s
    · exact ⟨_, _, rfl, hb⟩
    · exact ⟨_, _, rfl, hb⟩
  · rw [ht]
    have hb : upd a19 0 (0 : Int32) 0 = bI false ∧ ∀ j, ¬ j = 0 → upd a19 0 (0 : Int32) j = a19 j := ⟨pk_us, fun j hj => pk_un hj⟩
    have e1 : ∀ w : Int32, w = 0 ∨ w = 1 → wnx w false false = w := by
      intro w hw
      rcases hw with rfl | rfl <;> decide
    rw [e1 _ (Or.inr rfl)]
    unfold trM at ht
    by_cases h0 : a11 0 = 0
    · by_cases h1 : a23 0 = 0
      · rw [h0, h1] at ht
        exact absurd ht (by decide)
      · rw [if_pos h0, if_neg h1]
        exact ⟨_, _, rfl, hb⟩
    · rw [if_neg h0]
      exact ⟨_, _, rfl, hb⟩
theorem mc91 (uM : Nat → Int32) (y24 : Int32) (a9 a16 a19 a23 : Nat → Int32) : ∃ b23 y, s_M_scrub_cut91_0 uM y24 a9 a16 a19 a23 = (1, a9, a16, a19, b23, y) ∧ ∀ i, i < 3 → b23 i = if a23 i = 0 then (if a19 i = 0 then 0 else 1) else 1 := by
  unfold s_M_scrub_cut91_0 s_M_scrub_cut91_1 s_M_scrub_cut91_2 s_M_scrub_cut91_3
  have u : ∀ x0 x1 x2 : Int32, upd (upd (upd a23 0 x0) 1 x1) 2 x2 0 = x0 ∧ upd (upd (upd a23 0 x0) 1 x1) 2 x2 1 = x1 ∧ upd (upd (upd a23 0 x0) 1 x1) 2 x2 2 = x2 := fun x0 x1 x2 => ⟨rfl, rfl, rfl⟩
  have r1 : ∀ x0 : Int32, upd a23 0 x0 1 = a23 1 := fun _ => rfl
  have r2 : ∀ x0 x1 : Int32, upd (upd a23 0 x0) 1 x1 2 = a23 2 := fun _ _ => rfl
  by_cases h0 : a23 0 = 0 <;> by_cases h1 : a23 1 = 0 <;> by_cases h2 : a23 2 = 0 <;> by_cases k0 : a19 0 = 0 <;> by_cases k1 : a19 1 = 0 <;> by_cases k2 : a19 2 = 0 <;> simp only [r1, r2, h0, h1, h2, k0, k1, k2, if_true, if_false] <;> refine ⟨_, _, rfl, all3 ?_ ?_ ?_⟩ <;> simp [h0, h1, h2, k0, k1, k2, (u _ _ _).1, (u _ _ _).2.1, (u _ _ _).2.2]
def allS (t0 t1 t2 s0 s1 s2 : Bool) : Bool := (!t0 || s0) && (!t1 || s1) && (!t2 || s2)
theorem wnx_01 : ∀ t s : Bool, wnx 0 t s = 0 ∧ (wnx 1 t s = 0 ∨ wnx 1 t s = 1) := by decide
theorem wnx_all : ∀ t0 t1 t2 s0 s1 s2 : Bool, wnx (wnx (wnx 1 t0 s0) t1 s1) t2 s2 = bI (allS t0 t1 t2 s0 s1 s2) := by decide
theorem cnt_all : ∀ t0 t1 t2 s0 s1 s2 : Bool, (t0 = false → s0 = false) → (t1 = false → s1 = false) → (t2 = false → s2 = false) → decide (bI s0 + bI s1 + bI s2 = cB t0 t1 t2 true true true) = allS t0 t1 t2 s0 s1 s2 := by decide
theorem hR_f {t s : Bool} {i : Nat} {pl : Int32} {a9 a16 b9 b16 : Nat → Int32} (h : hR t s i pl a9 a16 b9 b16) : t = false → s = false := fun e => by
  rcases h with ⟨h, _⟩ | h
  · rw [e] at h; exact absurd h (by decide)
  · exact h.2.2.2
/-- what the whole scrub keeps -/
def kH (F G : Nat → Int32) : Prop := ∀ j, ¬ j = 13 → ¬ j = 14 → ¬ j = 15 → ¬ j = 17 → ¬ j = 18 → G j = F j
theorem kH_g {F G : Nat → Int32} (b : Bool) (h : kG F G) : kH F (nB b G) := fun j h1 h2 h3 h4 h5 => (kF_b b G j h2 h3 h5).trans (h j h1 h4)
theorem scrub_rel {uT uM a9 a11 a16 a19 a23 : Nat → Int32} {F v : Nat → Nat → Int32} {sn : Nat} (hs : uT 8 = nI sn) (hsn : sn < 2 ^ 31) (hv : ∀ i, i < 3 → rv1 i (v i) a9) (h8 : ∀ i, i < 3 → F i 8 = a11 i) (h15 : ∀ i, i < 3 → F i 15 = a23 i) (hf : ∀ i, i < 3 → a23 i = 0 ∨ a23 i = 1) : ∃ r F' v' b9 b16 b19 b23 y, s_T_scrub uT F v = (r, F', v') ∧ s_M_scrub uM sn a9 a11 a16 a19 a23 = (r, b9, b16, b19, b23, y) ∧ (r = 0 ∨ r = 1) ∧ (∀ i, i < 3 → rv1 i (v' i) b9) ∧ (∀ i, i < 3 → kH (F i) (F' i) ∧ F' i 15 = b23 i ∧ (b23 i = 0 ∨ b23 i = 1)) := by
  have ep : (nI sn) - (nI sn) / (32 : Int32) * (32 : Int32) = nI (sn % 32) := pk_rem (a := sn) (d := 32) hsn (by decide) (by decide)
  have hp : sn % 32 < 32 := Nat.mod_lt _ (by decide)
  have ht := trTM h8 h15
  obtain ⟨s0, F0, v0, c9, c16, e0, f0, k0, m0, r0, q0⟩ := sc_rel (F := F 0) (a16 := a16) (show 0 < 3 by decide) hp (hv 0 (by decide))
  obtain ⟨s1, F1, v1, d9, d16, e1, f1, k1, m1, r1, q1⟩ := sc_rel (F := F 1) (a16 := c16) (show 1 < 3 by decide) hp (rv1_f (hv 1 (by decide)) q0 (by decide))
  obtain ⟨s2, F2, v2, b9, b16, e2, f2, k2, m2, r2, q2⟩ := sc_rel (F := F 2) (a16 := d16) (show 2 < 3 by decide) hp (rv1_f (rv1_f (hv 2 (by decide)) q0 (by decide)) q1 (by decide))
  rw [← ep] at e0 e1 e2 m0 m1 m2
  rw [ht 0 (by decide)] at m0
  rw [ht 1 (by decide)] at m1
  rw [ht 2 (by decide)] at m2
  rw [← hs] at e0 e1 e2
  obtain ⟨v', eT, w0, w1, w2⟩ := tcut0 e0 e1 e2
  obtain ⟨F', eT2, hF'⟩ := tcut3 (tri F0 F1 F2) v' (bI s0 + bI s1 + bI s2)
  obtain ⟨y0, g19, eM0, p0, n0⟩ := mcS0 (uM := uM) (a19 := a19) m0
  obtain ⟨y1, h19, eM1, p1, n1⟩ := mcS1 (uM := uM) (a19 := g19) (y24 := y0) (wnx_01 (trM a11 a23 0) s0).2 m1
  have w3 : wnx (wnx 1 (trM a11 a23 0) s0) (trM a11 a23 1) s1 = 0 ∨ wnx (wnx 1 (trM a11 a23 0) s0) (trM a11 a23 1) s1 = 1 := by
    rcases (wnx_01 (trM a11 a23 0) s0).2 with h | h
    · rw [h]; exact Or.inl (wnx_01 _ _).1
    · rw [h]; exact (wnx_01 _ _).2
  obtain ⟨y2, b19, eM2, p2, n2⟩ := mcS2 (uM := uM) (a19 := h19) (y24 := y1) w3 m2
  have hc := cnt_all _ _ _ _ _ _ (hR_f m0) (hR_f m1) (hR_f m2)
  have htr : ∀ i, i < 3 → trB (tri F0 F1 F2 i) = trM a11 a23 i := by
    refine all3 ?_ ?_ ?_
    · rw [← ht 0 (by decide)]
      unfold trB
      rw [show tri F0 F1 F2 0 = F0 from rfl, k0 8 (by decide) (by decide), k0 15 (by decide) (by decide)]
    · rw [← ht 1 (by decide)]
      unfold trB
      rw [show tri F0 F1 F2 1 = F1 from rfl, k1 8 (by decide) (by decide), k1 15 (by decide) (by decide)]
    · rw [← ht 2 (by decide)]
      unfold trB
      rw [show tri F0 F1 F2 2 = F2 from rfl, k2 8 (by decide) (by decide), k2 15 (by decide) (by decide)]
  rw [cTru, htr 0 (by decide), htr 1 (by decide), htr 2 (by decide)] at eT2 hF'
  rw [wnx_all] at eM2
  have hvv : ∀ i, i < 3 → rv1 i (v' i) b9 := all3 (by rw [w0]; exact rv1_f (rv1_f r0 q1 (by decide)) q2 (by decide)) (by rw [w1]; exact rv1_f r1 q2 (by decide)) (by rw [w2]; exact r2)
  have hG : ∀ i, i < 3 → kG (F i) (tri F0 F1 F2 i) := all3 k0 k1 k2
  have h17 : ∀ i, i < 3 → tri F0 F1 F2 i 17 = b19 i := all3 (by rw [n2 0 (by decide), n1 0 (by decide), p0]; exact f0) (by rw [n2 1 (by decide), p1]; exact f1) (by rw [p2]; exact f2)
  generalize allS (trM a11 a23 0) (trM a11 a23 1) (trM a11 a23 2) s0 s1 s2 = A at *
  generalize cB (trM a11 a23 0) (trM a11 a23 1) (trM a11 a23 2) true true true = N at *
  rw [eT, eT2, eM0, eM1, eM2]
  cases A
  · have hne := of_decide_eq_false hc
    rw [if_neg hne]
    simp only [if_neg hne] at hF'
    obtain ⟨b23, y, e91, h91⟩ := mc91 uM (upc uM 24 y2 24) b9 b16 b19 a23
    unfold s_M_scrub_cut4_3
    rw [if_pos (show bI false = 0 from rfl), e91]
    refine ⟨1, F', v', b9, b16, b19, b23, y, rfl, rfl, Or.inr rfl, hvv, fun i hi => ?_⟩
    rw [hF' i hi, h91 i hi]
    refine ⟨kH_g _ (hG i hi), ?_, ?_⟩
    · rw [nB_15, h17 i hi, (hG i hi) 15 (by decide) (by decide), h15 i hi]
      by_cases z : b19 i = 0
      · rw [decide_eq_true z, if_pos z]
        rcases hf i hi with h | h
        · rw [h]; rfl
        · rw [h]; rfl
      · rw [decide_eq_false z, if_neg z]
        rcases hf i hi with h | h
        · rw [h]; rfl
        · rw [h]; rfl
    · split
      · split
        · exact Or.inl rfl
        · exact Or.inr rfl
      · exact Or.inr rfl
  · have he := of_decide_eq_true hc
    rw [if_pos he]
    simp only [if_pos he] at hF'
    unfold s_M_scrub_cut4_3
    rw [if_neg (show ¬ bI true = 0 by decide)]
    refine ⟨0, F', v', b9, b16, b19, a23, _, rfl, rfl, Or.inl rfl, hvv, fun i hi => ?_⟩
    rw [hF' i hi]
    exact ⟨kH_g false (hG i hi), by rw [(hG i hi) 15 (by decide) (by decide)]; exact h15 i hi, hf i hi⟩
/-! digests -/
theorem dig_eq {i : Nat} {F g a8 a10 : Nat → Int32} (hi : i < 3) (hg : rg1 i g a8) (h1 : F 1 = a10 i) : s_M_digest a8 a10 (nI i) = s_D_digest F g := by
  unfold s_M_digest s_D_digest s_D_digest_cut1 s_D_digest_cut2 s_D_digest_cut3 s_D_digest_cut4 s_D_digest_cut5 s_D_digest_cut6 s_D_digest_cut7 s_D_digest_cut8
  rw [s_M_digest_loop9, s_M_digest_loop9, s_M_digest_loop9, s_M_digest_loop9, s_M_digest_loop9, s_M_digest_loop9, s_M_digest_loop9, s_M_digest_loop9, s_M_digest_loop9]
  rw [cl3 hi, h1, ad8 hi (by decide), ad8 hi (by decide), ad8 hi (by decide), ad8 hi (by decide), ad8 hi (by decide), ad8 hi (by decide), ad8 hi (by decide), ad8 hi (by decide)]
  rw [rg1_reg hg (by decide), rg1_reg hg (by decide), rg1_reg hg (by decide), rg1_reg hg (by decide), rg1_reg hg (by decide), rg1_reg hg (by decide), rg1_reg hg (by decide), rg1_reg hg (by decide)]
  rfl
theorem trM_if {α : Type} (a11 a23 : Nat → Int32) (i : Nat) (x y : α) : (if a11 i = 0 then (if a23 i = 0 then x else y) else y) = if trM a11 a23 i then x else y := by
  unfold trM
  by_cases h : a11 i = 0 <;> by_cases k : a23 i = 0 <;> simp [h, k]
theorem cd2 (a8 a10 a11 a23 : Nat → Int32) (w1 w2 w3 : Int32) : s_M_compareDigests_cb55_2 a8 a10 a11 a23 w1 w2 w3 = if trM a11 a23 2 then (if (trM a11 a23 0 && decide (s_M_digest a8 a10 0 = s_M_digest a8 a10 2)) || (trM a11 a23 1 && decide (s_M_digest a8 a10 1 = s_M_digest a8 a10 2)) then s_M_compareDigests_cb55_3 a23 w1 w2 (w3 + 1) else s_M_compareDigests_cb55_3 a23 w1 2 w3) else s_M_compareDigests_cb55_3 a23 w1 w2 w3 := by
  unfold s_M_compareDigests_cb55_2 s_M_compareDigests_cc2_90_0 s_M_compareDigests_cc2_90_1 s_M_compareDigests_cc2_90_2 s_M_compareDigests_cc2_90_3
  simp only [bnd_eq, trM_if a11 a23 0, trM_if a11 a23 1, trM_if a11 a23 2]
  by_cases hp : s_M_digest a8 a10 0 = s_M_digest a8 a10 2 <;> by_cases hq : s_M_digest a8 a10 1 = s_M_digest a8 a10 2 <;> simp only [hp, hq, if_true, if_false, decide_true, decide_false] <;> generalize trM a11 a23 0 = tp <;> generalize trM a11 a23 1 = tq <;> generalize trM a11 a23 2 = tm <;> cases tp <;> cases tq <;> cases tm <;> rfl
theorem cd1 (a8 a10 a11 a23 : Nat → Int32) (w1 w2 w3 : Int32) : s_M_compareDigests_cb55_1 a8 a10 a11 a23 w1 w2 w3 = if trM a11 a23 1 then (if (trM a11 a23 0 && decide (s_M_digest a8 a10 0 = s_M_digest a8 a10 1)) || (trM a11 a23 2 && decide (s_M_digest a8 a10 2 = s_M_digest a8 a10 1)) then s_M_compareDigests_cb55_2 a8 a10 a11 a23 w1 w2 (w3 + 1) else s_M_compareDigests_cb55_2 a8 a10 a11 a23 w1 1 w3) else s_M_compareDigests_cb55_2 a8 a10 a11 a23 w1 w2 w3 := by
  unfold s_M_compareDigests_cb55_1 s_M_compareDigests_cc1_90_0 s_M_compareDigests_cc1_90_1 s_M_compareDigests_cc1_90_2 s_M_compareDigests_cc1_90_3
  simp only [bnd_eq, trM_if a11 a23 0, trM_if a11 a23 1, trM_if a11 a23 2]
  by_cases hp : s_M_digest a8 a10 0 = s_M_digest a8 a10 1 <;> by_cases hq : s_M_digest a8 a10 2 = s_M_digest a8 a10 1 <;> simp only [hp, hq, if_true, if_false, decide_true, decide_false] <;> generalize trM a11 a23 0 = tp <;> generalize trM a11 a23 2 = tq <;> generalize trM a11 a23 1 = tm <;> cases tp <;> cases tq <;> cases tm <;> rfl
theorem cd0 (a8 a10 a11 a23 : Nat → Int32) (w1 w2 w3 : Int32) : s_M_compareDigests_cb55_0 a8 a10 a11 a23 w1 w2 w3 = if trM a11 a23 0 then (if (trM a11 a23 1 && decide (s_M_digest a8 a10 1 = s_M_digest a8 a10 0)) || (trM a11 a23 2 && decide (s_M_digest a8 a10 2 = s_M_digest a8 a10 0)) then s_M_compareDigests_cb55_1 a8 a10 a11 a23 w1 w2 (w3 + 1) else s_M_compareDigests_cb55_1 a8 a10 a11 a23 w1 0 w3) else s_M_compareDigests_cb55_1 a8 a10 a11 a23 w1 w2 w3 := by
  unfold s_M_compareDigests_cb55_0 s_M_compareDigests_cc0_90_0 s_M_compareDigests_cc0_90_1 s_M_compareDigests_cc0_90_2 s_M_compareDigests_cc0_90_3
  simp only [bnd_eq, trM_if a11 a23 0, trM_if a11 a23 1, trM_if a11 a23 2]
  by_cases hp : s_M_digest a8 a10 1 = s_M_digest a8 a10 0 <;> by_cases hq : s_M_digest a8 a10 2 = s_M_digest a8 a10 0 <;> simp only [hp, hq, if_true, if_false, decide_true, decide_false] <;> generalize trM a11 a23 1 = tp <;> generalize trM a11 a23 2 = tq <;> generalize trM a11 a23 0 = tm <;> cases tp <;> cases tq <;> cases tm <;> rfl
theorem cdN (a8 a10 a11 a23 : Nat → Int32) : s_M_compareDigests a8 a10 a11 a23 = if 2 ≤ cB (trM a11 a23 0) (trM a11 a23 1) (trM a11 a23 2) true true true then s_M_compareDigests_cb55_0 a8 a10 a11 a23 (cB (trM a11 a23 0) (trM a11 a23 1) (trM a11 a23 2) true true true) (-1) 0 else (1, a23) := by
  unfold s_M_compareDigests s_M_compareDigests_ca4_0 s_M_compareDigests_ca4_1 s_M_compareDigests_ca4_2 s_M_compareDigests_ca4_3
  simp only [trM_if a11 a23 0, trM_if a11 a23 1, trM_if a11 a23 2]
  generalize trM a11 a23 0 = t0
  generalize trM a11 a23 1 = t1
  generalize trM a11 a23 2 = t2
  cases t0 <;> cases t1 <;> cases t2 <;> rfl
def dN (t0 t1 t2 : Bool) : Int32 := cB t0 t1 t2 true true true
/-- the reference's: the answer, and who is named -/
def dM (t0 t1 t2 e01 e02 e12 : Bool) : Bool × Bool × Bool × Bool :=
  if t0 && t1 && t2 then (if e01 then (true, false, false, !e02) else if e02 then (true, false, true, false) else if e12 then (true, true, false, false) else (false, false, false, false))
  else if t0 && t1 then (e01, false, false, false) else if t0 && t2 then (e02, false, false, false) else if t1 && t2 then (e12, false, false, false) else (true, false, false, false)
def dT (t0 t1 t2 d01 d02 d12 : Bool) : Bool × Bool × Bool × Bool :=
  if (if t0 then cB t0 t1 t2 true d01 d02 else if t1 then cB t0 t1 t2 d01 true d12 else cB t0 t1 t2 d02 d12 true) = cB t0 t1 t2 true true true then (true, false, false, false)
  else if oP t0 t1 t2 d01 d02 d12 = -1 then (false, false, false, false) else (true, t0 && !sel (oP t0 t1 t2 d01 d02 d12) true d01 d02, t1 && !sel (oP t0 t1 t2 d01 d02 d12) d01 true d12, t2 && !sel (oP t0 t1 t2 d01 d02 d12) d02 d12 true)
theorem dTM : ∀ t0 t1 t2 e01 e02 e12 : Bool, (t0 || t1 || t2) = true → (e01 && e12 && !e02) = false → (e01 && e02 && !e12) = false → (e02 && e12 && !e01) = false → dT t0 t1 t2 e01 e02 e12 = dM t0 t1 t2 e01 e02 e12 := by decide +kernel
def dRes (a23 : Nat → Int32) (V : Bool × Bool × Bool × Bool) (R : Int32 × (Nat → Int32)) : Prop := R.1 = bI V.1 ∧ R.2 0 = (if V.2.1 then 1 else a23 0) ∧ R.2 1 = (if V.2.2.1 then 1 else a23 1) ∧ R.2 2 = (if V.2.2.2 then 1 else a23 2)
theorem dig_M (a8 a10 a11 a23 : Nat → Int32) (e01 e02 e12 : Bool) (h1 : decide (s_M_digest a8 a10 0 = s_M_digest a8 a10 1) = e01) (h2 : decide (s_M_digest a8 a10 0 = s_M_digest a8 a10 2) = e02) (h3 : decide (s_M_digest a8 a10 1 = s_M_digest a8 a10 2) = e12) (i1 : (e01 && e12 && !e02) = false) (i2 : (e01 && e02 && !e12) = false) (i3 : (e02 && e12 && !e01) = false) : dRes a23 (dM (trM a11 a23 0) (trM a11 a23 1) (trM a11 a23 2) e01 e02 e12) (s_M_compareDigests a8 a10 a11 a23) := by
  rw [cdN]
  simp only [cd0, cd1, cd2]
  rw [dcm (s_M_digest a8 a10 1) (s_M_digest a8 a10 0), dcm (s_M_digest a8 a10 2) (s_M_digest a8 a10 0), dcm (s_M_digest a8 a10 2) (s_M_digest a8 a10 1), h1, h2, h3]
  unfold s_M_compareDigests_cb55_3
  generalize trM a11 a23 0 = t0
  generalize trM a11 a23 1 = t1
  generalize trM a11 a23 2 = t2
  clear h1 h2 h3
  cases t0 <;> cases t1 <;> cases t2 <;> cases e01 <;> cases e02 <;> cases e12 <;> first | exact ⟨rfl, rfl, rfl, rfl⟩ | exact absurd i1 (by decide) | exact absurd i2 (by decide) | exact absurd i3 (by decide)
def dRT (F : Nat → Nat → Int32) (V : Bool × Bool × Bool × Bool) (R : Int32 × (Nat → Nat → Int32)) : Prop := R.1 = bI V.1 ∧ R.2 0 = nB V.2.1 (F 0) ∧ R.2 1 = nB V.2.2.1 (F 1) ∧ R.2 2 = nB V.2.2.2 (F 2)
def dCh (F : Nat → Nat → Int32) : Int32 × (Nat → Nat → Int32) :=
  if s_T_oneOfTheAlikePair F = (-1) then (0, F)
  else if s_T_oneOfTheAlikePair F = 0 then (1, s_T_nameAllUnlike F (F 0 18))
  else if s_T_oneOfTheAlikePair F = 1 then (1, s_T_nameAllUnlike F (F 1 18))
  else (1, s_T_nameAllUnlike F (F 2 18))
theorem d3_eq (F : Nat → Nat → Int32) (w1 : Int32) : s_T_compareDigests_cut24_3 F w1 = if w1 = 0 then (if s_T_countBallots F (F 0 18) = s_T_countTrusted F then (1, F) else dCh F) else if w1 = 1 then (if s_T_countBallots F (F 1 18) = s_T_countTrusted F then (1, F) else dCh F) else (if s_T_countBallots F (F 2 18) = s_T_countTrusted F then (1, F) else dCh F) := by
  unfold s_T_compareDigests_cut24_3 s_T_compareDigests_cv75 dCh
  simp only [bnd_eq]
theorem oP_r2 : ∀ t0 t1 t2 d01 d02 d12 : Bool, oP t0 t1 t2 d01 d02 d12 = -1 ∨ oP t0 t1 t2 d01 d02 d12 = 0 ∨ oP t0 t1 t2 d01 d02 d12 = 1 ∨ oP t0 t1 t2 d01 d02 d12 = 2 := by decide +kernel
theorem dCh_r (F : Nat → Nat → Int32) : dRT F (if oP (trB (F 0)) (trB (F 1)) (trB (F 2)) (decide (F 0 18 = F 1 18)) (decide (F 0 18 = F 2 18)) (decide (F 1 18 = F 2 18)) = -1 then (false, false, false, false) else (true, trB (F 0) && !sel (oP (trB (F 0)) (trB (F 1)) (trB (F 2)) (decide (F 0 18 = F 1 18)) (decide (F 0 18 = F 2 18)) (decide (F 1 18 = F 2 18))) true (decide (F 0 18 = F 1 18)) (decide (F 0 18 = F 2 18)), trB (F 1) && !sel (oP (trB (F 0)) (trB (F 1)) (trB (F 2)) (decide (F 0 18 = F 1 18)) (decide (F 0 18 = F 2 18)) (decide (F 1 18 = F 2 18))) (decide (F 0 18 = F 1 18)) true (decide (F 1 18 = F 2 18)), trB (F 2) && !sel (oP (trB (F 0)) (trB (F 1)) (trB (F 2)) (decide (F 0 18 = F 1 18)) (decide (F 0 18 = F 2 18)) (decide (F 1 18 = F 2 18))) (decide (F 0 18 = F 2 18)) (decide (F 1 18 = F 2 18)) true)) (dCh F) := by
  have hr := oP_r2 (trB (F 0)) (trB (F 1)) (trB (F 2)) (decide (F 0 18 = F 1 18)) (decide (F 0 18 = F 2 18)) (decide (F 1 18 = F 2 18))
  unfold dCh
  rw [oPai]
  generalize oP (trB (F 0)) (trB (F 1)) (trB (F 2)) (decide (F 0 18 = F 1 18)) (decide (F 0 18 = F 2 18)) (decide (F 1 18 = F 2 18)) = ag at *
  rcases hr with rfl | rfl | rfl | rfl
  · exact ⟨rfl, rfl, rfl, rfl⟩
  · obtain ⟨n0, n1, n2⟩ := nAll F (F 0 18)
    refine ⟨rfl, n0.trans ?_, n1.trans ?_, n2.trans ?_⟩
    · show nU (F 0) (F 0 18) = nB (trB (F 0) && !true) (F 0)
      unfold nU nB; rw [dself]
    · show nU (F 1) (F 0 18) = nB (trB (F 1) && !decide (F 0 18 = F 1 18)) (F 1)
      unfold nU nB; rw [dcm]
    · show nU (F 2) (F 0 18) = nB (trB (F 2) && !decide (F 0 18 = F 2 18)) (F 2)
      unfold nU nB; rw [dcm]
  · obtain ⟨n0, n1, n2⟩ := nAll F (F 1 18)
    refine ⟨rfl, n0.trans ?_, n1.trans ?_, n2.trans ?_⟩
    · show nU (F 0) (F 1 18) = nB (trB (F 0) && !decide (F 0 18 = F 1 18)) (F 0)
      unfold nU nB; rfl
    · show nU (F 1) (F 1 18) = nB (trB (F 1) && !true) (F 1)
      unfold nU nB; rw [dself]
    · show nU (F 2) (F 1 18) = nB (trB (F 2) && !decide (F 1 18 = F 2 18)) (F 2)
      unfold nU nB; rw [dcm]
  · obtain ⟨n0, n1, n2⟩ := nAll F (F 2 18)
    refine ⟨rfl, n0.trans ?_, n1.trans ?_, n2.trans ?_⟩
    · show nU (F 0) (F 2 18) = nB (trB (F 0) && !decide (F 0 18 = F 2 18)) (F 0)
      unfold nU nB; rfl
    · show nU (F 1) (F 2 18) = nB (trB (F 1) && !decide (F 1 18 = F 2 18)) (F 1)
      unfold nU nB; rfl
    · show nU (F 2) (F 2 18) = nB (trB (F 2) && !true) (F 2)
      unfold nU nB; rw [dself]
theorem d3_r (F : Nat → Nat → Int32) : dRT F (dT (trB (F 0)) (trB (F 1)) (trB (F 2)) (decide (F 0 18 = F 1 18)) (decide (F 0 18 = F 2 18)) (decide (F 1 18 = F 2 18))) (s_T_compareDigests_cut24_3 F (if trB (F 0) then 0 else if trB (F 1) then 1 else 2)) := by
  have hc := dCh_r F
  rw [d3_eq]
  unfold dT
  rw [cBal, cBal, cBal, cTru, dself, dself, dself, dcm (F 1 18) (F 0 18), dcm (F 2 18) (F 0 18), dcm (F 2 18) (F 1 18)]
  generalize dCh F = C at *
  generalize (if oP (trB (F 0)) (trB (F 1)) (trB (F 2)) (decide (F 0 18 = F 1 18)) (decide (F 0 18 = F 2 18)) (decide (F 1 18 = F 2 18)) = -1 then (false, false, false, false) else (true, trB (F 0) && !sel (oP (trB (F 0)) (trB (F 1)) (trB (F 2)) (decide (F 0 18 = F 1 18)) (decide (F 0 18 = F 2 18)) (decide (F 1 18 = F 2 18))) true (decide (F 0 18 = F 1 18)) (decide (F 0 18 = F 2 18)), trB (F 1) && !sel (oP (trB (F 0)) (trB (F 1)) (trB (F 2)) (decide (F 0 18 = F 1 18)) (decide (F 0 18 = F 2 18)) (decide (F 1 18 = F 2 18))) (decide (F 0 18 = F 1 18)) true (decide (F 1 18 = F 2 18)), trB (F 2) && !sel (oP (trB (F 0)) (trB (F 1)) (trB (F 2)) (decide (F 0 18 = F 1 18)) (decide (F 0 18 = F 2 18)) (decide (F 1 18 = F 2 18))) (decide (F 0 18 = F 2 18)) (decide (F 1 18 = F 2 18)) true) : Bool × Bool × Bool × Bool) = W at *
  cases h0 : trB (F 0)
  · cases h1 : trB (F 1)
    · simp only [Bool.false_eq_true, if_false]
      rw [if_neg (show ¬ (2 : Int32) = 0 by decide), if_neg (show ¬ (2 : Int32) = 1 by decide)]
      split
      · exact ⟨rfl, rfl, rfl, rfl⟩
      · exact hc
    · simp only [Bool.false_eq_true, if_false, if_true]
      rw [if_neg (show ¬ (1 : Int32) = 0 by decide)]
      split
      · exact ⟨rfl, rfl, rfl, rfl⟩
      · exact hc
  · simp only [if_true]
    split
    · exact ⟨rfl, rfl, rfl, rfl⟩
    · exact hc
def gF (F g : Nat → Nat → Int32) : Nat → Nat → Int32 := tri (upc (F 0) 18 (s_D_digest (F 0) (g 0))) (upc (F 1) 18 (s_D_digest (F 1) (g 1))) (upc (F 2) 18 (s_D_digest (F 2) (g 2)))
theorem dig_T (uT : Nat → Int32) (F g : Nat → Nat → Int32) (h : (trB (F 0) || trB (F 1) || trB (F 2)) = true) (h16 : ((uT 8) - (uT 8) / (16 : Int32) * (16 : Int32)) = 0) : dRT (gF F g) (dT (trB (F 0)) (trB (F 1)) (trB (F 2)) (decide (s_D_digest (F 0) (g 0) = s_D_digest (F 1) (g 1))) (decide (s_D_digest (F 0) (g 0) = s_D_digest (F 2) (g 2))) (decide (s_D_digest (F 1) (g 1) = s_D_digest (F 2) (g 2)))) (s_T_compareDigests uT F g) := by
  have hv := d3_r (gF F g)
  have e : s_T_compareDigests uT F g = s_T_compareDigests_cut24_3 (gF F g) (if trB (gF F g 0) then 0 else if trB (gF F g 1) then 1 else 2) := by
    rw [show trB (gF F g 0) = trB (F 0) from rfl, show trB (gF F g 1) = trB (F 1) from rfl]
    unfold s_T_compareDigests
    rw [lowT, bnd_eq]
    simp only [if_pos h16]
    cases h0 : trB (F 0)
    · cases h1 : trB (F 1)
      · cases h2 : trB (F 2)
        · rw [h0, h1, h2] at h
          exact absurd h (by decide)
        · rfl
      · rfl
    · rfl
  rw [e]
  exact hv
theorem dig_T0 (uT : Nat → Int32) (F g : Nat → Nat → Int32) (h : (trB (F 0) || trB (F 1) || trB (F 2)) = false ∨ ¬ ((uT 8) - (uT 8) / (16 : Int32) * (16 : Int32)) = 0) : s_T_compareDigests uT F g = (1, F) := by
  unfold s_T_compareDigests
  rw [lowT, bnd_eq]
  rcases h with h | h
  · cases h0 : trB (F 0)
    · cases h1 : trB (F 1)
      · cases h2 : trB (F 2)
        · simp
        · rw [h0, h1, h2] at h; exact absurd h (by decide)
      · rw [h0, h1] at h; exact absurd h (by simp)
    · rw [h0] at h; exact absurd h (by simp)
  · simp only [if_neg h]
    split
    · rfl
    · split
      · rfl
      · split <;> rfl
theorem dig_rel {uT a8 a10 a11 a23 : Nat → Int32} {F g : Nat → Nat → Int32} (hg : ∀ i, i < 3 → rg1 i (g i) a8) (h1 : ∀ i, i < 3 → F i 1 = a10 i) (h8 : ∀ i, i < 3 → F i 8 = a11 i) (h15 : ∀ i, i < 3 → F i 15 = a23 i) (hf : ∀ i, i < 3 → a23 i = 0 ∨ a23 i = 1) (h16 : ((uT 8) - (uT 8) / (16 : Int32) * (16 : Int32)) = 0) : ∃ r F' b23, s_T_compareDigests uT F g = (r, F') ∧ s_M_compareDigests a8 a10 a11 a23 = (r, b23) ∧ (r = 0 ∨ r = 1) ∧ (∀ i, i < 3 → kF (F i) (F' i) ∧ F' i 15 = b23 i ∧ (b23 i = 0 ∨ b23 i = 1)) := by
  have e0 := dig_eq (show 0 < 3 by decide) (hg 0 (by decide)) (h1 0 (by decide))
  have e1 := dig_eq (show 1 < 3 by decide) (hg 1 (by decide)) (h1 1 (by decide))
  have e2 := dig_eq (show 2 < 3 by decide) (hg 2 (by decide)) (h1 2 (by decide))
  rw [show nI 0 = 0 from rfl] at e0
  rw [show nI 1 = 1 from rfl] at e1
  rw [show nI 2 = 2 from rfl] at e2
  have ht := trTM h8 h15
  have i1 : (decide (s_D_digest (F 0) (g 0) = s_D_digest (F 1) (g 1)) && decide (s_D_digest (F 1) (g 1) = s_D_digest (F 2) (g 2)) && !decide (s_D_digest (F 0) (g 0) = s_D_digest (F 2) (g 2))) = false := by
    by_cases p : s_D_digest (F 0) (g 0) = s_D_digest (F 1) (g 1)
    · by_cases q : s_D_digest (F 1) (g 1) = s_D_digest (F 2) (g 2)
      · simp [p, q]
      · simp [q]
    · simp [p]
  have i2 : (decide (s_D_digest (F 0) (g 0) = s_D_digest (F 1) (g 1)) && decide (s_D_digest (F 0) (g 0) = s_D_digest (F 2) (g 2)) && !decide (s_D_digest (F 1) (g 1) = s_D_digest (F 2) (g 2))) = false := by
    by_cases p : s_D_digest (F 0) (g 0) = s_D_digest (F 1) (g 1)
    · by_cases q : s_D_digest (F 0) (g 0) = s_D_digest (F 2) (g 2)
      · simp [p.symm, q]
      · simp [q]
    · simp [p]
  have i3 : (decide (s_D_digest (F 0) (g 0) = s_D_digest (F 2) (g 2)) && decide (s_D_digest (F 1) (g 1) = s_D_digest (F 2) (g 2)) && !decide (s_D_digest (F 0) (g 0) = s_D_digest (F 1) (g 1))) = false := by
    by_cases p : s_D_digest (F 0) (g 0) = s_D_digest (F 2) (g 2)
    · by_cases q : s_D_digest (F 1) (g 1) = s_D_digest (F 2) (g 2)
      · simp [p, q]
      · simp [q]
    · simp [p]
  have hM := dig_M a8 a10 a11 a23 (decide (s_D_digest (F 0) (g 0) = s_D_digest (F 1) (g 1))) (decide (s_D_digest (F 0) (g 0) = s_D_digest (F 2) (g 2))) (decide (s_D_digest (F 1) (g 1) = s_D_digest (F 2) (g 2))) (by rw [e0, e1]) (by rw [e0, e2]) (by rw [e1, e2]) i1 i2 i3
  have fin : ∀ (V : Bool × Bool × Bool × Bool) (x0 x1 x2 : Int32) (R : Int32 × (Nat → Nat → Int32)) (Q : Int32 × (Nat → Int32)), dRes a23 V Q → R.1 = bI V.1 → R.2 0 = nB V.2.1 (upc (F 0) 18 x0) → R.2 1 = nB V.2.2.1 (upc (F 1) 18 x1) → R.2 2 = nB V.2.2.2 (upc (F 2) 18 x2) → ∃ r F' b23, R = (r, F') ∧ Q = (r, b23) ∧ (r = 0 ∨ r = 1) ∧ (∀ i, i < 3 → kF (F i) (F' i) ∧ F' i 15 = b23 i ∧ (b23 i = 0 ∨ b23 i = 1)) := by
    intro V x0 x1 x2 R Q hQ r1 r2 r3 r4
    obtain ⟨R1, R2⟩ := R
    obtain ⟨Q1, Q2⟩ := Q
    obtain ⟨q1, q2, q3, q4⟩ := hQ
    dsimp only at *
    have ff : ∀ b : Bool, ∀ x : Int32, (x = 0 ∨ x = 1) → ((if b then (1 : Int32) else x) = 0 ∨ (if b then (1 : Int32) else x) = 1) := by
      intro b x hx
      cases b
      · exact hx
      · exact Or.inr rfl
    refine ⟨R1, R2, Q2, rfl, ?_, ?_, all3 ⟨?_, ?_, ?_⟩ ⟨?_, ?_, ?_⟩ ⟨?_, ?_, ?_⟩⟩
    · rw [q1, r1]
    · rw [r1]
      cases V.1
      · exact Or.inl rfl
      · exact Or.inr rfl
    · rw [r2]; exact kF_n _ _ _
    · rw [r2, nB_15, q2, show upc (F 0) 18 x0 15 = F 0 15 from rfl, h15 0 (by decide)]
    · rw [q2]; exact ff _ _ (hf 0 (by decide))
    · rw [r3]; exact kF_n _ _ _
    · rw [r3, nB_15, q3, show upc (F 1) 18 x1 15 = F 1 15 from rfl, h15 1 (by decide)]
    · rw [q3]; exact ff _ _ (hf 1 (by decide))
    · rw [r4]; exact kF_n _ _ _
    · rw [r4, nB_15, q4, show upc (F 2) 18 x2 15 = F 2 15 from rfl, h15 2 (by decide)]
    · rw [q4]; exact ff _ _ (hf 2 (by decide))
  by_cases ho : (trM a11 a23 0 || trM a11 a23 1 || trM a11 a23 2) = true
  · have hT := dig_T uT F g (by rw [ht 0 (by decide), ht 1 (by decide), ht 2 (by decide)]; exact ho) h16
    rw [ht 0 (by decide), ht 1 (by decide), ht 2 (by decide), dTM _ _ _ _ _ _ ho i1 i2 i3] at hT
    exact fin _ _ _ _ _ _ hM hT.1 hT.2.1 hT.2.2.1 hT.2.2.2
  · have hT := dig_T0 uT F g (Or.inl (by rw [ht 0 (by decide), ht 1 (by decide), ht 2 (by decide)]; simpa using ho))
    rw [hT]
    have e0 : trM a11 a23 0 = false := by cases h : trM a11 a23 0 <;> simp [h] at ho ⊢
    have e1 : trM a11 a23 1 = false := by cases h : trM a11 a23 1 <;> simp [h] at ho ⊢
    have e2 : trM a11 a23 2 = false := by cases h : trM a11 a23 2 <;> simp [h] at ho ⊢
    rw [e0, e1, e2] at hM
    refine fin (true, false, false, false) (F 0 18) (F 1 18) (F 2 18) (1, F) _ hM rfl ?_ ?_ ?_
    · funext j; show F 0 j = upc (F 0) 18 (F 0 18) j; unfold upc; split
      · rename_i h; rw [h]
      · rfl
    · funext j; show F 1 j = upc (F 1) 18 (F 1 18) j; unfold upc; split
      · rename_i h; rw [h]
      · rfl
    · funext j; show F 2 j = upc (F 2) 18 (F 2 18) j; unfold upc; split
      · rename_i h; rw [h]
      · rfl
/-! blame -/
def tBl (F : Nat → Int32) : Nat → Int32 := if F 15 = 0 then F else s_D_takeBlame F
theorem tbl3 (uT : Nat → Int32) (F : Nat → Nat → Int32) : ∃ F', s_T_blameNamed uT F = (bI (cgB uT (s_T_countInStep F')), F') ∧ ∀ i, i < 3 → F' i = tBl (F i) := by
  unfold s_T_blameNamed s_T_blameNamed_cut2_1 s_T_blameNamed_cut2_2 s_T_blameNamed_cut2_3 tBl
  simp only [bnd_eq]
  by_cases h0 : F 0 15 = 0 <;> by_cases h1 : F 1 15 = 0 <;> by_cases h2 : F 2 15 = 0 <;> simp only [h0, h1, h2, tri, if_true, if_false] <;> refine ⟨_, rfl, all3 ?_ ?_ ?_⟩ <;> simp [h0, h1, h2, tri]
def mB11 (i : Nat) (a11 a13 a23 : Nat → Int32) : Int32 := if a23 i = 0 then a11 i else if a13 i + 20 < 50 then 1 else 2
def mB12 (i : Nat) (a12 a23 : Nat → Int32) : Int32 := if a23 i = 0 then a12 i else 0
def mB13 (i : Nat) (a13 a23 : Nat → Int32) : Int32 := if a23 i = 0 then a13 i else a13 i + 20
theorem mbl3 (uM a11 a12 a13 a17 a23 : Nat → Int32) : ∃ r b11 b12 b13 b17, s_M_blameAll uM a11 a12 a13 a17 a23 = (r, b11, b12, b13, b17) ∧ r = (if 1 < cn3 b11 then 1 else if cn3 b11 = 1 then (if uM 5 = 0 then 0 else 1) else 0) ∧ ∀ i, i < 3 → b11 i = mB11 i a11 a13 a23 ∧ b12 i = mB12 i a12 a23 ∧ b13 i = mB13 i a13 a23 := by
  have fin : ∀ c11 c12 c13 c17 : Nat → Int32, (∀ i, i < 3 → c11 i = mB11 i a11 a13 a23 ∧ c12 i = mB12 i a12 a23 ∧ c13 i = mB13 i a13 a23) → ∃ r b11 b12 b13 b17, s_M_blameAll_cut2_3 uM c11 c12 c13 c17 = (r, b11, b12, b13, b17) ∧ r = (if 1 < cn3 b11 then 1 else if cn3 b11 = 1 then (if uM 5 = 0 then 0 else 1) else 0) ∧ ∀ i, i < 3 → b11 i = mB11 i a11 a13 a23 ∧ b12 i = mB12 i a12 a23 ∧ b13 i = mB13 i a13 a23 := by
    intro c11 c12 c13 c17 h
    unfold s_M_blameAll_cut2_3
    by_cases p : 1 < cn3 c11
    · rw [if_pos p]; exact ⟨1, c11, c12, c13, c17, rfl, (if_pos p).symm, h⟩
    · rw [if_neg p]
      by_cases q : cn3 c11 = 1
      · rw [if_pos q]
        by_cases z : uM 5 = 0
        · rw [if_pos z]; exact ⟨0, c11, c12, c13, c17, rfl, by rw [if_neg p, if_pos q, if_pos z], h⟩
        · rw [if_neg z]; exact ⟨1, c11, c12, c13, c17, rfl, by rw [if_neg p, if_pos q, if_neg z], h⟩
      · rw [if_neg q]; exact ⟨0, c11, c12, c13, c17, rfl, by rw [if_neg p, if_neg q], h⟩
  have u0 : ∀ (f : Nat → Int32) x, upd f 0 x 0 = x ∧ upd f 0 x 1 = f 1 ∧ upd f 0 x 2 = f 2 := fun _ _ => ⟨rfl, rfl, rfl⟩
  have u1 : ∀ (f : Nat → Int32) x, upd f 1 x 0 = f 0 ∧ upd f 1 x 1 = x ∧ upd f 1 x 2 = f 2 := fun _ _ => ⟨rfl, rfl, rfl⟩
  have u2 : ∀ (f : Nat → Int32) x, upd f 2 x 0 = f 0 ∧ upd f 2 x 1 = f 1 ∧ upd f 2 x 2 = x := fun _ _ => ⟨rfl, rfl, rfl⟩
  unfold s_M_blameAll s_M_blameAll_cut2_1 s_M_blameAll_cut2_2
  simp only [(u0 _ _).1, (u0 _ _).2.1, (u0 _ _).2.2, (u1 _ _).1, (u1 _ _).2.1, (u1 _ _).2.2, (u2 _ _).1, (u2 _ _).2.1, (u2 _ _).2.2]
  by_cases h0 : a23 0 = 0 <;> by_cases h1 : a23 1 = 0 <;> by_cases h2 : a23 2 = 0 <;> by_cases k0 : a13 0 + 20 < 50 <;> by_cases k1 : a13 1 + 20 < 50 <;> by_cases k2 : a13 2 + 20 < 50 <;> simp only [h0, h1, h2, k0, k1, k2, if_true, if_false] <;> refine fin _ _ _ _ (all3 ?_ ?_ ?_) <;> simp only [mB11, mB12, mB13, h0, h1, h2, k0, k1, k2, if_true, if_false, (u0 _ _).1, (u0 _ _).2.1, (u0 _ _).2.2, (u1 _ _).1, (u1 _ _).2.1, (u1 _ _).2.2, (u2 _ _).1, (u2 _ _).2.1, (u2 _ _).2.2, and_self]
theorem cis (F : Nat → Nat → Int32) (a11 : Nat → Int32) (h : ∀ i, i < 3 → F i 8 = a11 i) : s_T_countInStep F = cn3 a11 := by
  unfold s_T_countInStep s_T_countInStep_cut4_1 s_T_countInStep_cut4_2 s_T_countInStep_cut4_3 cn3 z1
  rw [h 0 (by decide), h 1 (by decide), h 2 (by decide)]
  by_cases h0 : a11 0 = 0 <;> by_cases h1 : a11 1 = 0 <;> by_cases h2 : a11 2 = 0 <;> simp only [h0, h1, h2, if_true, if_false] <;> rfl
def kB (F G : Nat → Int32) : Prop := ∀ j, ¬ j = 8 → ¬ j = 9 → ¬ j = 10 → G j = F j
theorem tBl_r {i : Nat} {F a11 a12 a13 a23 : Nat → Int32} (h8 : F 8 = a11 i) (h9 : F 8 = 1 → F 9 = a12 i) (h10 : F 10 = a13 i) (h15 : F 15 = a23 i) : tBl F 8 = mB11 i a11 a13 a23 ∧ (tBl F 8 = 1 → tBl F 9 = mB12 i a12 a23) ∧ tBl F 10 = mB13 i a13 a23 ∧ kB F (tBl F) := by
  unfold tBl mB11 mB12 mB13
  rw [h15]
  by_cases z : a23 i = 0
  · simp only [if_pos z]
    exact ⟨h8, h9, h10, fun _ _ _ _ => rfl⟩
  · simp only [if_neg z]
    unfold s_D_takeBlame
    rw [h10]
    by_cases k : a13 i + 20 < 50
    · rw [if_pos k, if_pos k]
      exact ⟨rfl, fun _ => rfl, rfl, fun j h1 h2 h3 => by simp [upc, h1, h2, h3]⟩
    · rw [if_neg k, if_neg k]
      exact ⟨rfl, fun _ => rfl, rfl, fun j h1 h2 h3 => by simp [upc, h1, h2, h3]⟩
theorem blame_rel {uT uM a11 a12 a13 a17 a23 : Nat → Int32} {F : Nat → Nat → Int32} (h7 : uT 7 = uM 5) (h8 : ∀ i, i < 3 → F i 8 = a11 i) (h9 : ∀ i, i < 3 → F i 8 = 1 → F i 9 = a12 i) (h10 : ∀ i, i < 3 → F i 10 = a13 i) (h15 : ∀ i, i < 3 → F i 15 = a23 i) : ∃ r F' b11 b12 b13 b17, s_T_blameNamed uT F = (r, F') ∧ s_M_blameAll uM a11 a12 a13 a17 a23 = (r, b11, b12, b13, b17) ∧ (r = 0 ∨ (r = 1 ∧ s3 b11)) ∧ (∀ i, i < 3 → F' i 8 = b11 i ∧ (F' i 8 = 1 → F' i 9 = b12 i) ∧ F' i 10 = b13 i ∧ kB (F i) (F' i) ∧ (b11 i = 0 → a11 i = 0 ∧ a23 i = 0) ∧ (b11 i = 1 → a23 i = 0 → a11 i = 1 ∧ b12 i = a12 i)) := by
  obtain ⟨F', eT, hT⟩ := tbl3 uT F
  obtain ⟨r, b11, b12, b13, b17, eM, er, hM⟩ := mbl3 uM a11 a12 a13 a17 a23
  have hr : ∀ i, i < 3 → F' i 8 = b11 i ∧ (F' i 8 = 1 → F' i 9 = b12 i) ∧ F' i 10 = b13 i ∧ kB (F i) (F' i) ∧ (b11 i = 0 → a11 i = 0 ∧ a23 i = 0) ∧ (b11 i = 1 → a23 i = 0 → a11 i = 1 ∧ b12 i = a12 i) := fun i hi => by
    obtain ⟨m1, m2, m3⟩ := hM i hi
    obtain ⟨p1, p2, p3, p4⟩ := tBl_r (h8 i hi) (h9 i hi) (h10 i hi) (h15 i hi)
    rw [hT i hi, m1, m2, m3]
    refine ⟨p1, p2, p3, p4, fun h => ?_, fun h hz => ?_⟩
    · unfold mB11 at h
      by_cases z : a23 i = 0
      · rw [if_pos z] at h; exact ⟨h, z⟩
      · rw [if_neg z] at h
        by_cases k : a13 i + 20 < 50
        · rw [if_pos k] at h; exact absurd h (by decide)
        · rw [if_neg k] at h; exact absurd h (by decide)
    · unfold mB11 at h
      unfold mB12
      rw [if_pos hz] at h ⊢
      exact ⟨h, rfl⟩
  refine ⟨r, F', b11, b12, b13, b17, ?_, eM, ?_, hr⟩
  · rw [eT, cis F' b11 (fun i hi => (hr i hi).1), er]
    unfold cgB
    rw [h7]
    by_cases p : 1 < cn3 b11
    · rw [if_pos p, decide_eq_true p]; rfl
    · rw [if_neg p, decide_eq_false p]
      by_cases q : cn3 b11 = 1
      · rw [if_pos q, decide_eq_true q]
        by_cases z : uM 5 = 0
        · rw [if_pos z, decide_eq_true z]; rfl
        · rw [if_neg z, decide_eq_false z]; rfl
      · rw [if_neg q, decide_eq_false q]; rfl
  · by_cases hs : s3 b11
    · have : r = 0 ∨ r = 1 := by
        rw [er]
        split
        · exact Or.inr rfl
        · split
          · split
            · exact Or.inl rfl
            · exact Or.inr rfl
          · exact Or.inl rfl
      rcases this with h | h
      · exact Or.inl h
      · exact Or.inr ⟨h, hs⟩
    · left
      have h0 : cn3 b11 = 0 := by
        unfold s3 at hs
        have h0 : ¬ b11 0 = 0 := fun h => hs (Or.inl h)
        have h1 : ¬ b11 1 = 0 := fun h => hs (Or.inr (Or.inl h))
        have h2 : ¬ b11 2 = 0 := fun h => hs (Or.inr (Or.inr h))
        unfold cn3 z1
        rw [if_neg h0, if_neg h1, if_neg h2]
        rfl
      rw [er, h0]
      rfl
/-! copying -/
def tCp (F g v G h w : Nat → Int32) : (Nat → Int32) × (Nat → Int32) × (Nat → Int32) := if F 8 = 1 then (if F 15 = 0 then s_D_copyNextFrom F g v G h w else (F, g, v)) else (F, g, v)
theorem n01 {x : Int32} (h : x = 0) : ¬ x = 1 := by rw [h]; decide
theorem tcp_0 (F g v : Nat → Nat → Int32) (h : F 0 8 = 0) : ∀ i, i < 3 → c3 (s_T_copyOn_cut13_0 F g v 0) i = tCp (F i) (g i) (v i) (F 0) (g 0) (v 0) := by
  have hs : tCp (F 0) (g 0) (v 0) (F 0) (g 0) (v 0) = (F 0, g 0, v 0) := if_neg (n01 h)
  unfold s_T_copyOn_cut13_0 s_T_copyOn_cut13_1 s_T_copyOn_cut13_2 s_T_copyOn_cut13_3
  simp only [bnd_eq, q10, q20, q21, if_true, if_false]
  generalize ep : s_D_copyNextFrom (F 1) (g 1) (v 1) (F 0) (g 0) (v 0) = P
  obtain ⟨P1, P2, P3⟩ := P
  generalize eq : s_D_copyNextFrom (F 2) (g 2) (v 2) (F 0) (g 0) (v 0) = Q
  obtain ⟨Q1, Q2, Q3⟩ := Q
  have hp : tCp (F 1) (g 1) (v 1) (F 0) (g 0) (v 0) = if F 1 8 = 1 then (if F 1 15 = 0 then (P1, P2, P3) else (F 1, g 1, v 1)) else (F 1, g 1, v 1) := by
    unfold tCp; rw [ep]
  have hq : tCp (F 2) (g 2) (v 2) (F 0) (g 0) (v 0) = if F 2 8 = 1 then (if F 2 15 = 0 then (Q1, Q2, Q3) else (F 2, g 2, v 2)) else (F 2, g 2, v 2) := by
    unfold tCp; rw [eq]
  refine all3 ?_ ?_ ?_
  all_goals first | rw [hs] | rw [hp] | rw [hq]
  all_goals
    by_cases k1 : F 1 8 = 1 <;> by_cases k2 : F 1 15 = 0 <;> by_cases k3 : F 2 8 = 1 <;> by_cases k4 : F 2 15 = 0 <;> simp only [k1, k2, k3, k4, tri, if_true, if_false] <;> (try rw [eq]) <;> (try rw [ep]) <;> rfl
theorem tcp_1 (F g v : Nat → Nat → Int32) (h : F 1 8 = 0) : ∀ i, i < 3 → c3 (s_T_copyOn_cut13_0 F g v 1) i = tCp (F i) (g i) (v i) (F 1) (g 1) (v 1) := by
  have hs : tCp (F 1) (g 1) (v 1) (F 1) (g 1) (v 1) = (F 1, g 1, v 1) := if_neg (n01 h)
  unfold s_T_copyOn_cut13_0 s_T_copyOn_cut13_1 s_T_copyOn_cut13_2 s_T_copyOn_cut13_3
  simp only [bnd_eq, q10, q20, q21, if_true, if_false]
  generalize ep : s_D_copyNextFrom (F 0) (g 0) (v 0) (F 1) (g 1) (v 1) = P
  obtain ⟨P1, P2, P3⟩ := P
  generalize eq : s_D_copyNextFrom (F 2) (g 2) (v 2) (F 1) (g 1) (v 1) = Q
  obtain ⟨Q1, Q2, Q3⟩ := Q
  have hp : tCp (F 0) (g 0) (v 0) (F 1) (g 1) (v 1) = if F 0 8 = 1 then (if F 0 15 = 0 then (P1, P2, P3) else (F 0, g 0, v 0)) else (F 0, g 0, v 0) := by
    unfold tCp; rw [ep]
  have hq : tCp (F 2) (g 2) (v 2) (F 1) (g 1) (v 1) = if F 2 8 = 1 then (if F 2 15 = 0 then (Q1, Q2, Q3) else (F 2, g 2, v 2)) else (F 2, g 2, v 2) := by
    unfold tCp; rw [eq]
  refine all3 ?_ ?_ ?_
  all_goals first | rw [hs] | rw [hp] | rw [hq]
  all_goals
    by_cases k1 : F 0 8 = 1 <;> by_cases k2 : F 0 15 = 0 <;> by_cases k3 : F 2 8 = 1 <;> by_cases k4 : F 2 15 = 0 <;> simp only [k1, k2, k3, k4, tri, if_true, if_false] <;> (try rw [eq]) <;> (try rw [ep]) <;> rfl
theorem tcp_2 (F g v : Nat → Nat → Int32) (h : F 2 8 = 0) : ∀ i, i < 3 → c3 (s_T_copyOn_cut13_0 F g v 2) i = tCp (F i) (g i) (v i) (F 2) (g 2) (v 2) := by
  have hs : tCp (F 2) (g 2) (v 2) (F 2) (g 2) (v 2) = (F 2, g 2, v 2) := if_neg (n01 h)
  unfold s_T_copyOn_cut13_0 s_T_copyOn_cut13_1 s_T_copyOn_cut13_2 s_T_copyOn_cut13_3
  simp only [bnd_eq, q10, q20, q21, if_true, if_false]
  generalize ep : s_D_copyNextFrom (F 0) (g 0) (v 0) (F 2) (g 2) (v 2) = P
  obtain ⟨P1, P2, P3⟩ := P
  generalize eq : s_D_copyNextFrom (F 1) (g 1) (v 1) (F 2) (g 2) (v 2) = Q
  obtain ⟨Q1, Q2, Q3⟩ := Q
  have hp : tCp (F 0) (g 0) (v 0) (F 2) (g 2) (v 2) = if F 0 8 = 1 then (if F 0 15 = 0 then (P1, P2, P3) else (F 0, g 0, v 0)) else (F 0, g 0, v 0) := by
    unfold tCp; rw [ep]
  have hq : tCp (F 1) (g 1) (v 1) (F 2) (g 2) (v 2) = if F 1 8 = 1 then (if F 1 15 = 0 then (Q1, Q2, Q3) else (F 1, g 1, v 1)) else (F 1, g 1, v 1) := by
    unfold tCp; rw [eq]
  refine all3 ?_ ?_ ?_
  all_goals first | rw [hs] | rw [hp] | rw [hq]
  all_goals
    by_cases k1 : F 0 8 = 1 <;> by_cases k2 : F 0 15 = 0 <;> by_cases k3 : F 1 8 = 1 <;> by_cases k4 : F 1 15 = 0 <;> simp only [k1, k2, k3, k4, tri, if_true, if_false] <;> (try rw [eq]) <;> (try rw [ep]) <;> rfl
def cpl (mi w : Int32) : Nat → Nat → (Nat → Int32) → (Nat → Int32)
  | 0, _, a => a
  | n + 1, i, a => cpl mi w n (i + 1) (upd a (Int32.toNatClampNeg (((8 : Int32) * mi) + (nI i))) (a (Int32.toNatClampNeg (((8 : Int32) * w) + (nI i)))))
theorem cpl_r {i s : Nat} (hi : i < 3) (hs : s < 3) (hne : ¬ i = s) : ∀ n j (a : Nat → Int32), j + n = 8 → (∀ q, q < 8 * i ∨ 8 * i + 8 ≤ q → cpl (nI i) (nI s) n j a q = a q) ∧ (∀ k, j ≤ k → k < 8 → cpl (nI i) (nI s) n j a (8 * i + k) = a (8 * s + k)) ∧ (∀ k, k < j → cpl (nI i) (nI s) n j a (8 * i + k) = a (8 * i + k)) := by
  intro n
  induction n with
  | zero =>
    intro j a hj
    exact ⟨fun q _ => rfl, fun k h1 h2 => by omega, fun k _ => rfl⟩
  | succ n ih =>
    intro j a hj
    rw [cpl, ad8 hi (by omega), ad8 hs (by omega)]
    obtain ⟨p1, p2, p3⟩ := ih (j + 1) (upd a (8 * i + j) (a (8 * s + j))) (by omega)
    refine ⟨fun q hq => ?_, fun k h1 h2 => ?_, fun k hk => ?_⟩
    · rw [p1 q hq, pk_un (by omega)]
    · by_cases e : k = j
      · rw [p3 k (by omega), e, pk_us]
      · rw [p2 k (by omega) h2, pk_un (by omega)]
    · rw [p3 k (by omega), pk_un (by omega)]
def mCp (i : Nat) (mi : Int32) (a23 a8 a9 a10 a11 a12 : Nat → Int32) (w : Int32) : (Nat → Int32) × (Nat → Int32) × (Nat → Int32) × (Nat → Int32) × (Nat → Int32) :=
  if a11 i = 1 then
    if a23 i = 0 then
      if 32 ≤ a12 i + 1 then (cpl mi w 8 0 a8, upd a9 (Int32.toNatClampNeg (((32 : Int32) * mi) + (a12 i))) (a9 (Int32.toNatClampNeg (((32 : Int32) * w) + (a12 i)))), upd a10 i (a10 (Int32.toNatClampNeg w)), upd a11 i (0 : Int32), upd a12 i ((a12 i) + (1 : Int32)))
      else (a8, upd a9 (Int32.toNatClampNeg (((32 : Int32) * mi) + (a12 i))) (a9 (Int32.toNatClampNeg (((32 : Int32) * w) + (a12 i)))), a10, a11, upd a12 i ((a12 i) + (1 : Int32)))
    else (a8, a9, a10, a11, a12)
  else (a8, a9, a10, a11, a12)
theorem cil_2 (a23 : Nat → Int32) : ∀ n j (a8 a9 a10 a11 a12 : Nat → Int32) (w : Int32), s_M_copyAll_ci2_93 n j a8 a9 a10 a11 a12 w = s_M_copyAll_cut8_3 (cpl 2 w n j a8) a9 (upd a10 2 (a10 (Int32.toNatClampNeg w))) (upd a11 2 (0 : Int32)) a12 w := by
  intro n
  induction n with
  | zero => intro j a8 a9 a10 a11 a12 w; rfl
  | succ n ih =>
    intro j a8 a9 a10 a11 a12 w
    rw [s_M_copyAll_ci2_93, ih]
    rfl
theorem mcp_2 {a23 a8 a9 a10 a11 a12 b8 b9 b10 b11 b12 : Nat → Int32} {w : Int32} (h : mCp 2 2 a23 a8 a9 a10 a11 a12 w = (b8, b9, b10, b11, b12)) : s_M_copyAll_cut8_2 a23 a8 a9 a10 a11 a12 w = s_M_copyAll_cut8_3 b8 b9 b10 b11 b12 w := by
  unfold mCp at h
  unfold s_M_copyAll_cut8_2
  rw [pk_us]
  by_cases k1 : a11 2 = 1
  · rw [if_pos k1] at h ⊢
    by_cases k2 : a23 2 = 0
    · rw [if_pos k2] at h ⊢
      by_cases k3 : 32 ≤ a12 2 + 1
      · rw [if_pos k3] at h ⊢
        rw [cil_2 a23]
        simp only [Prod.mk.injEq] at h
        obtain ⟨rfl, rfl, rfl, rfl, rfl⟩ := h
        rfl
      · rw [if_neg k3] at h ⊢
        simp only [Prod.mk.injEq] at h
        obtain ⟨rfl, rfl, rfl, rfl, rfl⟩ := h
        rfl
    · rw [if_neg k2] at h ⊢
      simp only [Prod.mk.injEq] at h
      obtain ⟨rfl, rfl, rfl, rfl, rfl⟩ := h
      rfl
  · rw [if_neg k1] at h ⊢
    simp only [Prod.mk.injEq] at h
    obtain ⟨rfl, rfl, rfl, rfl, rfl⟩ := h
    rfl
theorem cil_1 (a23 : Nat → Int32) : ∀ n j (a8 a9 a10 a11 a12 : Nat → Int32) (w : Int32), s_M_copyAll_ci1_93 a23 n j a8 a9 a10 a11 a12 w = s_M_copyAll_cut8_2 a23 (cpl 1 w n j a8) a9 (upd a10 1 (a10 (Int32.toNatClampNeg w))) (upd a11 1 (0 : Int32)) a12 w := by
  intro n
  induction n with
  | zero => intro j a8 a9 a10 a11 a12 w; rfl
  | succ n ih =>
    intro j a8 a9 a10 a11 a12 w
    rw [s_M_copyAll_ci1_93, ih]
    rfl
theorem mcp_1 {a23 a8 a9 a10 a11 a12 b8 b9 b10 b11 b12 : Nat → Int32} {w : Int32} (h : mCp 1 1 a23 a8 a9 a10 a11 a12 w = (b8, b9, b10, b11, b12)) : s_M_copyAll_cut8_1 a23 a8 a9 a10 a11 a12 w = s_M_copyAll_cut8_2 a23 b8 b9 b10 b11 b12 w := by
  unfold mCp at h
  unfold s_M_copyAll_cut8_1
  rw [pk_us]
  by_cases k1 : a11 1 = 1
  · rw [if_pos k1] at h ⊢
    by_cases k2 : a23 1 = 0
    · rw [if_pos k2] at h ⊢
      by_cases k3 : 32 ≤ a12 1 + 1
      · rw [if_pos k3] at h ⊢
        rw [cil_1 a23]
        simp only [Prod.mk.injEq] at h
        obtain ⟨rfl, rfl, rfl, rfl, rfl⟩ := h
        rfl
      · rw [if_neg k3] at h ⊢
        simp only [Prod.mk.injEq] at h
        obtain ⟨rfl, rfl, rfl, rfl, rfl⟩ := h
        rfl
    · rw [if_neg k2] at h ⊢
      simp only [Prod.mk.injEq] at h
      obtain ⟨rfl, rfl, rfl, rfl, rfl⟩ := h
      rfl
  · rw [if_neg k1] at h ⊢
    simp only [Prod.mk.injEq] at h
    obtain ⟨rfl, rfl, rfl, rfl, rfl⟩ := h
    rfl
theorem cil_0 (a23 : Nat → Int32) : ∀ n j (a8 a9 a10 a11 a12 : Nat → Int32) (w : Int32), s_M_copyAll_ci0_93 a23 n j a8 a9 a10 a11 a12 w = s_M_copyAll_cut8_1 a23 (cpl 0 w n j a8) a9 (upd a10 0 (a10 (Int32.toNatClampNeg w))) (upd a11 0 (0 : Int32)) a12 w := by
  intro n
  induction n with
  | zero => intro j a8 a9 a10 a11 a12 w; rfl
  | succ n ih =>
    intro j a8 a9 a10 a11 a12 w
    rw [s_M_copyAll_ci0_93, ih]
    rfl
theorem mcp_0 {a23 a8 a9 a10 a11 a12 b8 b9 b10 b11 b12 : Nat → Int32} {w : Int32} (h : mCp 0 0 a23 a8 a9 a10 a11 a12 w = (b8, b9, b10, b11, b12)) : s_M_copyAll_cut8_0 a23 a8 a9 a10 a11 a12 w = s_M_copyAll_cut8_1 a23 b8 b9 b10 b11 b12 w := by
  unfold mCp at h
  unfold s_M_copyAll_cut8_0
  rw [pk_us]
  by_cases k1 : a11 0 = 1
  · rw [if_pos k1] at h ⊢
    by_cases k2 : a23 0 = 0
    · rw [if_pos k2] at h ⊢
      by_cases k3 : 32 ≤ a12 0 + 1
      · rw [if_pos k3] at h ⊢
        rw [cil_0 a23]
        simp only [Prod.mk.injEq] at h
        obtain ⟨rfl, rfl, rfl, rfl, rfl⟩ := h
        rfl
      · rw [if_neg k3] at h ⊢
        simp only [Prod.mk.injEq] at h
        obtain ⟨rfl, rfl, rfl, rfl, rfl⟩ := h
        rfl
    · rw [if_neg k2] at h ⊢
      simp only [Prod.mk.injEq] at h
      obtain ⟨rfl, rfl, rfl, rfl, rfl⟩ := h
      rfl
  · rw [if_neg k1] at h ⊢
    simp only [Prod.mk.injEq] at h
    obtain ⟨rfl, rfl, rfl, rfl, rfl⟩ := h
    rfl
/-- what copying keeps of a module -/
def kC (F G : Nat → Int32) : Prop := ∀ j, ¬ j = 1 → ¬ j = 8 → ¬ j = 9 → G j = F j
def cpS (cn i : Nat) (F g v a8 a9 a10 a11 a12 : Nat → Int32) : Prop := rg1 i g a8 ∧ rv1 i v a9 ∧ F 1 = a10 i ∧ F 8 = a11 i ∧ (F 8 = 1 → F 9 = a12 i) ∧ wdI 8 g ∧ (∃ k, k < cn ∧ a10 i = nI k)
def cpF (i : Nat) (a8 a9 a10 a11 a12 b8 b9 b10 b11 b12 : Nat → Int32) : Prop := fr 8 i a8 b8 ∧ fr 32 i a9 b9 ∧ fr 1 i a10 b10 ∧ fr 1 i a11 b11 ∧ fr 1 i a12 b12
theorem cpS_f {cn i j : Nat} {F g v a8 a9 a10 a11 a12 b8 b9 b10 b11 b12 : Nat → Int32} (h : cpS cn j F g v a8 a9 a10 a11 a12) (f : cpF i a8 a9 a10 a11 a12 b8 b9 b10 b11 b12) (hj : ¬ j = i) : cpS cn j F g v b8 b9 b10 b11 b12 := by
  obtain ⟨f8, f9, f10, f11, f12⟩ := f
  unfold cpS
  rw [fr1_n f10 hj, fr1_n f11 hj, fr1_n f12 hj]
  exact ⟨rg1_f h.1 f8 hj, rv1_f h.2.1 f9 hj, h.2.2⟩
theorem cpF_r (i : Nat) (a8 a9 a10 a11 a12 : Nat → Int32) : cpF i a8 a9 a10 a11 a12 a8 a9 a10 a11 a12 := ⟨fr_r _ _ _, fr_r _ _ _, fr_r _ _ _, fr_r _ _ _, fr_r _ _ _⟩
theorem cp_rel {cn i s : Nat} {F g v G h w a8 a9 a10 a11 a12 a23 : Nat → Int32} (hi : i < 3) (hs : s < 3) (hm : cpS cn i F g v a8 a9 a10 a11 a12) (hS : cpS cn s G h w a8 a9 a10 a11 a12) (h15 : F 15 = a23 i) (hk : a11 i = 1 → ∃ k, k < 32 ∧ a12 i = nI k) (h0 : a11 s = 0) : ∃ b8 b9 b10 b11 b12, mCp i (nI i) a23 a8 a9 a10 a11 a12 (nI s) = (b8, b9, b10, b11, b12) ∧ cpF i a8 a9 a10 a11 a12 b8 b9 b10 b11 b12 ∧ cpS cn i (tCp F g v G h w).1 (tCp F g v G h w).2.1 (tCp F g v G h w).2.2 b8 b9 b10 b11 b12 ∧ kC F (tCp F g v G h w).1 ∧ (b11 i = 1 → ∃ k, k < 32 ∧ b12 i = nI k) ∧ (a11 i = 0 → b11 i = 0) := by
  obtain ⟨g1, v1, c1, s1, m1, x1, y1⟩ := hm
  obtain ⟨g2, v2, c2, s2, m2, x2, y2⟩ := hS
  unfold mCp tCp
  rw [s1, h15]
  by_cases k1 : a11 i = 1
  · have hne : ¬ i = s := fun e => by rw [e, h0] at k1; exact absurd k1 (by decide)
    rw [if_pos k1, if_pos k1]
    by_cases k2 : a23 i = 0
    · rw [if_pos k2, if_pos k2]
      obtain ⟨k, hk, ek⟩ := hk k1
      have e9 : F 9 = nI k := (m1 (s1.trans k1)).trans ek
      unfold s_D_copyNextFrom
      rw [e9, ek, show nI k + 1 = nI (k + 1) from nI_1 k, ad32 hi hk, ad32 hs hk, nI_clamp (show k < 2 ^ 31 by omega), cl3 hs]
      have hn : ¬ (32 : Int32) ≤ nI k := fun h => by
        have := (nI_leI (a := 32) (b := k) (by omega) (by omega)).mp h
        omega
      rw [if_neg hn]
      have hv : rv1 i (upd v k (w k)) (upd a9 (32 * i + k) (a9 (32 * s + k))) := by
        obtain ⟨e, n22⟩ := v2 k hk
        rw [← e]
        exact rv1_u v1 hk n22
      have hf : fr 32 i a9 (upd a9 (32 * i + k) (a9 (32 * s + k))) := fr_u _ _ (by omega) (by omega)
      by_cases k3 : k + 1 = 32
      · have e3 : (32 : Int32) ≤ nI (k + 1) := by rw [k3]; decide
        have e4 : nI (k + 1) = 32 := by rw [k3]; rfl
        rw [if_pos e3, if_pos e4]
        obtain ⟨p1, p2, p3⟩ := cpl_r hi hs hne 8 0 a8 rfl
        refine ⟨_, _, _, _, _, rfl, ⟨p1, hf, fr_1 i _ _, fr_1 i _ _, fr_1 i _ _⟩, ⟨?_, hv, ?_, pk_us.symm, fun h => absurd (show (0 : Int32) = 1 from h) (by decide), wdI_cpy x2 x1, y2.elim fun k e => ⟨k, e.1, pk_us.trans e.2⟩⟩, fun j h1 h2 h3 => by simp [upc, h1, h2, h3], fun h => ?_, fun h => pk_us⟩
        · intro j hj
          rw [p2 j (Nat.zero_le _) hj, ← g2 j hj]
          simp [va_cpy, hj]
        · rw [pk_us]; exact c2
        · rw [pk_us] at h; exact absurd h (by decide)
      · have e3 : ¬ (32 : Int32) ≤ nI (k + 1) := fun h => by
          have := (nI_leI (a := 32) (b := k + 1) (by omega) (by omega)).mp h
          omega
        have e4 : ¬ nI (k + 1) = 32 := fun h => k3 (nI_inj (a := k + 1) (b := 32) (by omega) (by omega) h)
        rw [if_neg e3, if_neg e4]
        refine ⟨_, _, _, _, _, rfl, ⟨fr_r _ _ _, hf, fr_r _ _ _, fr_r _ _ _, fr_1 i _ _⟩, ⟨g1, hv, c1, s1, fun _ => pk_us.symm, x1, y1⟩, fun j h1 h2 h3 => by simp [upc, h3], fun _ => ⟨k + 1, by omega, pk_us⟩, fun h => h⟩
    · rw [if_neg k2, if_neg k2]
      exact ⟨_, _, _, _, _, rfl, cpF_r _ _ _ _ _ _, ⟨g1, v1, c1, s1, m1, x1, y1⟩, fun _ _ _ _ => rfl, hk, fun h => h⟩
  · rw [if_neg k1, if_neg k1]
    exact ⟨_, _, _, _, _, rfl, cpF_r _ _ _ _ _ _, ⟨g1, v1, c1, s1, m1, x1, y1⟩, fun _ _ _ _ => rfl, hk, fun h => h⟩
theorem tCp_0 {F g v G h w : Nat → Int32} (h0 : F 8 = 0) : tCp F g v G h w = (F, g, v) := if_neg (n01 h0)
theorem cpK {cn i s : Nat} {F g v : Nat → Nat → Int32} {a8 a9 a10 a11 a12 b8 b9 b10 b11 b12 : Nat → Int32} (h8 : F s 8 = 0) (hS : cpS cn s (F s) (g s) (v s) a8 a9 a10 a11 a12) (f : cpF i a8 a9 a10 a11 a12 b8 b9 b10 b11 b12) (c : cpS cn i (tCp (F i) (g i) (v i) (F s) (g s) (v s)).1 (tCp (F i) (g i) (v i) (F s) (g s) (v s)).2.1 (tCp (F i) (g i) (v i) (F s) (g s) (v s)).2.2 b8 b9 b10 b11 b12) : cpS cn s (F s) (g s) (v s) b8 b9 b10 b11 b12 := by
  by_cases e : s = i
  · subst e
    rw [tCp_0 h8] at c
    exact c
  · exact cpS_f hS f e
theorem cp3 {cn s : Nat} {F g v : Nat → Nat → Int32} {a8 a9 a10 a11 a12 a23 : Nat → Int32} (hs : s < 3) (hm : ∀ i, i < 3 → cpS cn i (F i) (g i) (v i) a8 a9 a10 a11 a12) (h15 : ∀ i, i < 3 → F i 15 = a23 i) (hk : ∀ i, i < 3 → a11 i = 1 → ∃ k, k < 32 ∧ a12 i = nI k) (h0 : a11 s = 0) : ∃ b8 b9 b10 b11 b12, s_M_copyAll_cut8_0 a23 a8 a9 a10 a11 a12 (nI s) = (b8, b9, b10, b11, b12) ∧ (∀ i, i < 3 → cpS cn i (tCp (F i) (g i) (v i) (F s) (g s) (v s)).1 (tCp (F i) (g i) (v i) (F s) (g s) (v s)).2.1 (tCp (F i) (g i) (v i) (F s) (g s) (v s)).2.2 b8 b9 b10 b11 b12 ∧ kC (F i) (tCp (F i) (g i) (v i) (F s) (g s) (v s)).1 ∧ (b11 i = 1 → ∃ k, k < 32 ∧ b12 i = nI k) ∧ (a11 i = 0 → b11 i = 0)) := by
  have h8 : F s 8 = 0 := (hm s hs).2.2.2.1.trans h0
  obtain ⟨c8, c9, c10, c11, c12, e0, f0, s0, k0, m0, z0⟩ := cp_rel (show 0 < 3 by decide) hs (hm 0 (by decide)) (hm s hs) (h15 0 (by decide)) (hk 0 (by decide)) h0
  have S1 := cpK h8 (hm s hs) f0 s0
  have e11 : c11 s = 0 := S1.2.2.2.1.symm.trans h8
  have M1 := cpS_f (hm 1 (by decide)) f0 (by decide)
  have K1 : c11 1 = 1 → ∃ k, k < 32 ∧ c12 1 = nI k := by
    rw [fr1_n f0.2.2.2.1 (by decide), fr1_n f0.2.2.2.2 (by decide)]; exact hk 1 (by decide)
  obtain ⟨d8, d9, d10, d11, d12, e1, f1, s1, k1, m1, z1⟩ := cp_rel (show 1 < 3 by decide) hs M1 S1 (h15 1 (by decide)) K1 e11
  have S2 := cpK h8 S1 f1 s1
  have e11' : d11 s = 0 := S2.2.2.2.1.symm.trans h8
  have M2 := cpS_f (cpS_f (hm 2 (by decide)) f0 (by decide)) f1 (by decide)
  have K2 : d11 2 = 1 → ∃ k, k < 32 ∧ d12 2 = nI k := by
    rw [fr1_n f1.2.2.2.1 (by decide), fr1_n f1.2.2.2.2 (by decide), fr1_n f0.2.2.2.1 (by decide), fr1_n f0.2.2.2.2 (by decide)]; exact hk 2 (by decide)
  obtain ⟨b8, b9, b10, b11, b12, e2, f2, s2, k2, m2, z2⟩ := cp_rel (show 2 < 3 by decide) hs M2 S2 (h15 2 (by decide)) K2 e11'
  refine ⟨b8, b9, b10, b11, b12, (mcp_0 e0).trans ((mcp_1 e1).trans (mcp_2 e2)), all3 ⟨?_, k0, ?_, ?_⟩ ⟨?_, k1, ?_, ?_⟩ ⟨s2, k2, m2, ?_⟩⟩
  · exact cpS_f (cpS_f s0 f1 (by decide)) f2 (by decide)
  · rw [fr1_n f2.2.2.2.1 (by decide), fr1_n f2.2.2.2.2 (by decide), fr1_n f1.2.2.2.1 (by decide), fr1_n f1.2.2.2.2 (by decide)]; exact m0
  · rw [fr1_n f2.2.2.2.1 (by decide), fr1_n f1.2.2.2.1 (by decide)]; exact z0
  · exact cpS_f s1 f2 (by decide)
  · rw [fr1_n f2.2.2.2.1 (by decide), fr1_n f2.2.2.2.2 (by decide)]; exact m1
  · rw [fr1_n f2.2.2.2.1 (by decide)]; rw [fr1_n f0.2.2.2.1 (by decide)] at z1; exact z1
  · rw [fr1_n f1.2.2.2.1 (by decide), fr1_n f0.2.2.2.1 (by decide)] at z2; exact z2
theorem lowM0 (a11 a23 : Nat → Int32) : s_M_lowest a11 a23 0 = if a11 0 = 0 then 0 else if a11 1 = 0 then 1 else if a11 2 = 0 then 2 else -1 := by
  unfold s_M_lowest
  by_cases h0 : a11 0 = 0 <;> by_cases h1 : a11 1 = 0 <;> by_cases h2 : a11 2 = 0 <;> simp [h0, h1, h2]
theorem copy_rel {cn : Nat} {F g v : Nat → Nat → Int32} {a8 a9 a10 a11 a12 a23 : Nat → Int32} (hin : s3 a11) (hm : ∀ i, i < 3 → cpS cn i (F i) (g i) (v i) a8 a9 a10 a11 a12) (h15 : ∀ i, i < 3 → F i 15 = a23 i) (hk : ∀ i, i < 3 → a11 i = 1 → ∃ k, k < 32 ∧ a12 i = nI k) (hz : ∀ i, i < 3 → a11 i = 0 → a23 i = 0) : ∃ F' g' v' b8 b9 b10 b11 b12, s_T_copyOn F g v = (F', g', v') ∧ s_M_copyAll a8 a9 a10 a11 a12 a23 = (b8, b9, b10, b11, b12) ∧ (∀ i, i < 3 → cpS cn i (F' i) (g' i) (v' i) b8 b9 b10 b11 b12 ∧ kC (F i) (F' i) ∧ (b11 i = 1 → ∃ k, k < 32 ∧ b12 i = nI k)) ∧ s3 b11 := by
  have ht : ∀ i, i < 3 → trB (F i) = decide (a11 i = 0) := fun i hi => by
    unfold trB
    rw [(hm i hi).2.2.2.1, h15 i hi]
    by_cases e : a11 i = 0
    · rw [hz i hi e]; simp
    · simp [e]
  have fin : ∀ s, s < 3 → a11 s = 0 → s_T_copyOn F g v = s_T_copyOn_cut13_0 F g v (nI s) → (∀ i, i < 3 → c3 (s_T_copyOn_cut13_0 F g v (nI s)) i = tCp (F i) (g i) (v i) (F s) (g s) (v s)) → s_M_copyAll a8 a9 a10 a11 a12 a23 = s_M_copyAll_cut8_0 a23 a8 a9 a10 a11 a12 (nI s) → ∃ F' g' v' b8 b9 b10 b11 b12, s_T_copyOn F g v = (F', g', v') ∧ s_M_copyAll a8 a9 a10 a11 a12 a23 = (b8, b9, b10, b11, b12) ∧ (∀ i, i < 3 → cpS cn i (F' i) (g' i) (v' i) b8 b9 b10 b11 b12 ∧ kC (F i) (F' i) ∧ (b11 i = 1 → ∃ k, k < 32 ∧ b12 i = nI k)) ∧ s3 b11 := by
    intro s hs h0 eT hT eM
    obtain ⟨b8, b9, b10, b11, b12, e, h⟩ := cp3 hs hm h15 hk h0
    rw [eT, eM, e]
    refine ⟨_, _, _, b8, b9, b10, b11, b12, rfl, rfl, fun i hi => ?_, ?_⟩
    · obtain ⟨p1, p2, p3, p4⟩ := h i hi
      rw [← hT i hi] at p1 p2
      exact ⟨p1, p2, p3⟩
    · have hz := (h s hs).2.2.2 h0
      have h3 : s = 0 ∨ s = 1 ∨ s = 2 := by omega
      rcases h3 with rfl | rfl | rfl
      · exact Or.inl hz
      · exact Or.inr (Or.inl hz)
      · exact Or.inr (Or.inr hz)
  by_cases h0 : a11 0 = 0
  · refine fin 0 (by decide) h0 ?_ (tcp_0 F g v ((hm 0 (by decide)).2.2.2.1.trans h0)) ?_
    · unfold s_T_copyOn
      rw [lowT, ht 0 (by decide), decide_eq_true h0, bnd_eq]
      rfl
    · unfold s_M_copyAll
      rw [lowM0, if_pos h0, bnd_eq]
      rfl
  · by_cases h1 : a11 1 = 0
    · refine fin 1 (by decide) h1 ?_ (tcp_1 F g v ((hm 1 (by decide)).2.2.2.1.trans h1)) ?_
      · unfold s_T_copyOn
        rw [lowT, ht 0 (by decide), decide_eq_false h0, ht 1 (by decide), decide_eq_true h1, bnd_eq]
        rfl
      · unfold s_M_copyAll
        rw [lowM0, if_neg h0, if_pos h1, bnd_eq]
        rfl
    · have h2 : a11 2 = 0 := by
        rcases hin with h | h | h
        · exact absurd h h0
        · exact absurd h h1
        · exact h
      refine fin 2 (by decide) h2 ?_ (tcp_2 F g v ((hm 2 (by decide)).2.2.2.1.trans h2)) ?_
      · unfold s_T_copyOn
        rw [lowT, ht 0 (by decide), decide_eq_false h0, ht 1 (by decide), decide_eq_false h1, ht 2 (by decide), decide_eq_true h2, bnd_eq]
        rfl
      · unfold s_M_copyAll
        rw [lowM0, if_neg h0, if_neg h1, if_pos h2, bnd_eq]
        rfl
/-! blame gets less -/
def tFo (F : Nat → Int32) : Nat → Int32 := if F 10 ≤ 0 then F else upc F 10 ((F 10) - (1 : Int32))
theorem forg_T (uT : Nat → Int32) (F : Nat → Nat → Int32) : ∀ i, i < 3 → s_T_forgive uT F i = if ((uT 8) - (uT 8) / (4 : Int32) * (4 : Int32)) = 0 then tFo (F i) else F i := by
  unfold s_T_forgive s_T_forgive_cut12_1 s_T_forgive_cut12_2 s_T_forgive_cut12_3 tFo
  by_cases h : ((uT 8) - (uT 8) / (4 : Int32) * (4 : Int32)) = 0
  · simp only [if_pos h]
    by_cases h0 : F 0 10 ≤ 0 <;> by_cases h1 : F 1 10 ≤ 0 <;> by_cases h2 : F 2 10 ≤ 0 <;> (refine all3 ?_ ?_ ?_ <;> simp only [h0, h1, h2, tri, if_true, if_false])
  · intro i hi
    simp only [if_neg h]
def mFo (i : Nat) (a13 : Nat → Int32) : Int32 := if a13 i ≤ 0 then a13 i else a13 i - 1
theorem forg_M (sn : Nat) (uMx a8 a9 a10 a11 a12 a13 a15 a16 a17 a18 a19 a20 a21 a22 a23 a30 a31 a32 a36 : Nat → Int32) (usx wtx ocx oux owx : Nat) : ∃ b13, s_M_stepOnce_cf126_0 sn uMx a8 a9 a10 a11 a12 a13 a15 a16 a17 a18 a19 a20 a21 a22 a23 a30 a31 a32 a36 usx wtx ocx oux owx = (1, a8, a9, a10, a11, a12, b13, a15, a16, a17, a18, a19, a20, a21, a22, a23, a30, a31, a32, a36, usx, wtx, ocx, oux, owx, sn + 1, uMx) ∧ ∀ i, i < 3 → b13 i = if ((nI (sn + 1)) - (nI (sn + 1)) / (4 : Int32) * (4 : Int32)) = 0 then mFo i a13 else a13 i := by
  unfold s_M_stepOnce_cf126_0 s_M_stepOnce_cf126_1 s_M_stepOnce_cf126_2 s_M_stepOnce_cf126_3 mFo
  have u0 : ∀ (f : Nat → Int32) x, upd f 0 x 0 = x ∧ upd f 0 x 1 = f 1 ∧ upd f 0 x 2 = f 2 := fun _ _ => ⟨rfl, rfl, rfl⟩
  have u1 : ∀ (f : Nat → Int32) x, upd f 1 x 0 = f 0 ∧ upd f 1 x 1 = x ∧ upd f 1 x 2 = f 2 := fun _ _ => ⟨rfl, rfl, rfl⟩
  have u2 : ∀ (f : Nat → Int32) x, upd f 2 x 0 = f 0 ∧ upd f 2 x 1 = f 1 ∧ upd f 2 x 2 = x := fun _ _ => ⟨rfl, rfl, rfl⟩
  by_cases h : ((nI (sn + 1)) - (nI (sn + 1)) / (4 : Int32) * (4 : Int32)) = 0
  · simp only [if_pos h, (u0 _ _).1, (u0 _ _).2.1, (u0 _ _).2.2, (u1 _ _).1, (u1 _ _).2.1, (u1 _ _).2.2, (u2 _ _).1, (u2 _ _).2.1, (u2 _ _).2.2]
    by_cases h0 : a13 0 ≤ 0 <;> by_cases h1 : a13 1 ≤ 0 <;> by_cases h2 : a13 2 ≤ 0 <;> simp only [h0, h1, h2, if_true, if_false] <;> refine ⟨_, rfl, all3 ?_ ?_ ?_⟩ <;> simp only [h0, h1, h2, if_true, if_false, Int32.sub_zero, (u0 _ _).1, (u0 _ _).2.1, (u0 _ _).2.2, (u1 _ _).1, (u1 _ _).2.1, (u1 _ _).2.2, (u2 _ _).1, (u2 _ _).2.1, (u2 _ _).2.2]
  · simp only [if_neg h]
    exact ⟨_, rfl, fun _ _ => rfl⟩
