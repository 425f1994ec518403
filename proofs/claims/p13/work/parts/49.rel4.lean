/-! the perfect one -/
theorem perf_rel {Z eg ew wN pe f : Nat → Int32} {cn kN ke oc ou : Nat} (hc : prI cn f) (hbd : ∀ j, j < cn → bad cn (f j) = false) (hZ1 : Z 1 = nI oc) (hoc : oc < cn) (hZ9 : Z 9 = nI ou) (hou : ou ≤ kN) (hkN : kN ≤ 64) (hr : wdI 8 eg) (hrw : wdI 32 ew) (hwN : wdI 64 wN) : ∃ Z' g' w' k' p' oc' ou', s_E_doInstruction Z eg ew cn f kN wN ke pe = (Z', g', w', k', p') ∧ s_M_perfectStep cn kN oc ou ke f wN eg ew pe = (g', w', p', oc', ou', k') ∧ Z' 1 = nI oc' ∧ Z' 9 = nI ou' ∧ oc' < cn ∧ ou' ≤ kN ∧ wdI 8 g' ∧ wdI 32 w' := by
  obtain ⟨hc1, hc2⟩ := hc
  have hin := hc2 oc hoc
  have hb := hbd oc hoc
  unfold s_E_doInstruction s_C_execute_E s_M_perfectStep
  have eT : s_P_instructionAt cn f (clE Z 1) = f oc := by
    unfold s_P_instructionAt
    rw [show clE Z 1 = Z 1 from rfl, hZ1, wrap_id hc1 hoc, bnd_eq, nI_clamp (by omega)]
  have eP : s_C_passOver_E (clE Z) cn = nI ((oc + 1) % cn) := by
    unfold s_C_passOver_E
    rw [show clE Z 1 = Z 1 from rfl, hZ1, show nI oc + 1 = nI (oc + 1) from nI_1 oc, wrap_eq (by omega) hc1, bnd_eq, pk_rem (by omega) (by omega) (by omega)]
  rw [eT, eP]
  have hx : (oc + 1) % cn < cn := Nat.mod_lt _ (by omega)
  simp only [bnd_eq]
  rw [nI_clamp (show oc < 2 ^ 31 by omega)]
  generalize f oc = iw at *
  have z2 : ∀ x, upc (clE Z) 1 x 2 = 0 := fun _ => rfl
  by_cases o0 : ush iw 24 = 0
  · simp only [if_pos o0]
    rw [Int32.mul_comm 256 (wB iw)]
    exact ⟨_, _, _, _, _, _, ou, rfl, rfl, rfl, hZ9, hx, hou, rgI_upd hr (set16 iw), hrw⟩
  simp only [if_neg o0]
  by_cases o1 : ush iw 24 = 1
  · simp only [if_pos o1]
    obtain ⟨rA, rB, rC⟩ := in_ABC hin (Or.inl o1)
    obtain ⟨b, hb, eB⟩ := reg_nI (wB_nI iw) rB
    obtain ⟨c, hc, eC⟩ := reg_nI (wC_nI iw) rC
    rw [eB, eC, clr hb, clr hc, reckon_eq (hr b hb) (hr c hc)]
    exact ⟨_, _, _, _, _, _, ou, rfl, rfl, rfl, hZ9, hx, hou, rgI_upd hr (result16 _ _ _), hrw⟩
  simp only [if_neg o1]
  by_cases o2 : ush iw 24 = 2
  · simp only [if_pos o2]
    obtain ⟨rA, rB, rC⟩ := in_ABC hin (Or.inr (Or.inl o2))
    obtain ⟨b, hb, eB⟩ := reg_nI (wB_nI iw) rB
    obtain ⟨c, hc, eC⟩ := reg_nI (wC_nI iw) rC
    rw [eB, eC, clr hb, clr hc, reckon_eq (hr b hb) (hr c hc)]
    exact ⟨_, _, _, _, _, _, ou, rfl, rfl, rfl, hZ9, hx, hou, rgI_upd hr (result16 _ _ _), hrw⟩
  simp only [if_neg o2]
  by_cases o3 : ush iw 24 = 3
  · simp only [if_pos o3]
    obtain ⟨rA, rB, rC⟩ := in_ABC hin (Or.inr (Or.inr (Or.inl o3)))
    obtain ⟨b, hb, eB⟩ := reg_nI (wB_nI iw) rB
    obtain ⟨c, hc, eC⟩ := reg_nI (wC_nI iw) rC
    rw [eB, eC, clr hb, clr hc, reckon_eq (hr b hb) (hr c hc)]
    exact ⟨_, _, _, _, _, _, ou, rfl, rfl, rfl, hZ9, hx, hou, rgI_upd hr (result16 _ _ _), hrw⟩
  simp only [if_neg o3]
  by_cases o4 : ush iw 24 = 4
  · simp only [if_pos o4]
    obtain ⟨rA, rB, rC⟩ := in_ABC hin (Or.inr (Or.inr (Or.inr o4)))
    obtain ⟨b, hb, eB⟩ := reg_nI (wB_nI iw) rB
    obtain ⟨c, hc, eC⟩ := reg_nI (wC_nI iw) rC
    rw [eB, eC, clr hb, clr hc, reckon_eq (hr b hb) (hr c hc)]
    exact ⟨_, _, _, _, _, _, ou, rfl, rfl, rfl, hZ9, hx, hou, rgI_upd hr (result16 _ _ _), hrw⟩
  simp only [if_neg o4]
  by_cases o5 : ush iw 24 = 5
  · simp only [if_pos o5]
    obtain ⟨rA, rB⟩ := in_AB hin (Or.inl o5)
    obtain ⟨b, hb, eB⟩ := reg_nI (wB_nI iw) rB
    obtain ⟨w, hw, eW⟩ := pl32_nI (hr b hb) (wC_nI iw)
    have h16 : is16 (ew (Int32.toNatClampNeg (pl32 (eg (Int32.toNatClampNeg (wB iw))) (wC iw)))) := by
      rw [eB, clr hb, eW, nI_clamp (show w < 2 ^ 31 by omega)]
      exact hrw w hw
    exact ⟨_, _, _, _, _, _, ou, rfl, rfl, rfl, hZ9, hx, hou, rgI_upd hr h16, hrw⟩
  simp only [if_neg o5]
  by_cases o6 : ush iw 24 = 6
  · simp only [if_pos o6]
    obtain ⟨rA, rB⟩ := in_AB hin (Or.inr o6)
    obtain ⟨a, ha, eA⟩ := reg_nI (wA_nI iw) rA
    have h16 : is16 (eg (Int32.toNatClampNeg (wA iw))) := by
      rw [eA, clr ha]
      exact hr a ha
    exact ⟨_, _, _, _, _, _, ou, rfl, rfl, rfl, hZ9, hx, hou, hr, rgI_upd hrw h16⟩
  simp only [if_neg o6]
  by_cases o7 : ush iw 24 = 7
  · simp only [if_pos o7]
    obtain ⟨j, hj, ej⟩ := jmp_ok hb (Or.inl o7) hc1
    rw [ej, nI_clamp (show j < 2 ^ 31 by omega)]
    by_cases z : eg (Int32.toNatClampNeg (wA iw)) = 0
    · simp only [if_pos z]
      exact ⟨_, _, _, _, _, _, ou, rfl, rfl, rfl, hZ9, hj, hou, hr, hrw⟩
    · simp only [if_neg z]
      exact ⟨_, _, _, _, _, _, ou, rfl, rfl, rfl, hZ9, hx, hou, hr, hrw⟩
  simp only [if_neg o7]
  by_cases o8 : ush iw 24 = 8
  · simp only [if_pos o8]
    obtain ⟨j, hj, ej⟩ := jmp_ok hb (Or.inr o8) hc1
    rw [ej, nI_clamp (show j < 2 ^ 31 by omega)]
    exact ⟨_, _, _, _, _, _, ou, rfl, rfl, rfl, hZ9, hj, hou, hr, hrw⟩
  simp only [if_neg o8]
  by_cases o9 : ush iw 24 = 9
  · simp only [if_pos o9]
    obtain ⟨a, ha, eA⟩ := reg_nI (wA_nI iw) (in_A hin (Or.inr (Or.inr (Or.inl o9))))
    rw [eA, clr ha]
    have y2 : upc (upc (upc (clE Z) 1 (nI ((oc + 1) % cn))) 2 (1 : Int32)) 4 (nI a) 2 = 1 := rfl
    have y9 : upc (upc (upc (clE Z) 1 (nI ((oc + 1) % cn))) 2 (1 : Int32)) 4 (nI a) 9 = nI ou := hZ9
    have y4 : upc (upc (upc (clE Z) 1 (nI ((oc + 1) % cn))) 2 (1 : Int32)) 4 (nI a) 4 = nI a := rfl
    have y1 : upc (upc (upc (clE Z) 1 (nI ((oc + 1) % cn))) 2 (1 : Int32)) 4 (nI a) 1 = nI ((oc + 1) % cn) := rfl
    generalize upc (upc (upc (clE Z) 1 (nI ((oc + 1) % cn))) 2 (1 : Int32)) 4 (nI a) = Y at *
    have hneg : ¬ nI ou < 0 := by
      intro h
      have := (nI_ltI (a := ou) (b := 0) (by omega) (by omega)).mp h
      omega
    have hna : ¬ nI a = -1 := fun h => (neg_nI (x := a) (by omega)).1 h.symm
    unfold s_N_wordAt s_C_receive_E
    rw [y2, y9, y4, if_pos rfl, if_neg hneg, if_neg hna, clr ha]
    by_cases hl : nI kN ≤ nI ou
    · rw [if_pos hl, if_pos hl, if_pos hl]
      refine ⟨_, _, _, _, _, _, ou, rfl, rfl, y1, ?_, hx, hou, rgI_upd hr is16_0, hrw⟩
      show nI ou + 0 = nI ou
      exact Int32.add_zero _
    · have hlt : ou < kN := Nat.not_le.mp fun h => hl ((nI_leI (by omega) (by omega)).mpr h)
      rw [if_neg hl, if_neg hl, if_neg hl]
      refine ⟨_, _, _, _, _, _, ou + 1, rfl, rfl, y1, ?_, hx, hlt, rgI_upd hr (by rw [nI_clamp (show ou < 2 ^ 31 by omega)]; exact hwN ou (by omega)), hrw⟩
      show nI ou + 1 = nI (ou + 1)
      exact nI_1 ou
  simp only [if_neg o9]
  have o10 := ops hin o0 o1 o2 o3 o4 o5 o6 o7 o8 o9
  simp only [if_pos o10]
  obtain ⟨a, ha, eA⟩ := reg_nI (wA_nI iw) (in_A hin (Or.inr (Or.inr (Or.inr o10))))
  rw [eA, clr ha]
  have y2 : upc (upc (upc (clE Z) 1 (nI ((oc + 1) % cn))) 2 (2 : Int32)) 3 (eg a) 2 = 2 := rfl
  have y9 : upc (upc (upc (clE Z) 1 (nI ((oc + 1) % cn))) 2 (2 : Int32)) 3 (eg a) 9 = nI ou := hZ9
  have y3 : upc (upc (upc (clE Z) 1 (nI ((oc + 1) % cn))) 2 (2 : Int32)) 3 (eg a) 3 = eg a := rfl
  have y1 : upc (upc (upc (clE Z) 1 (nI ((oc + 1) % cn))) 2 (2 : Int32)) 3 (eg a) 1 = nI ((oc + 1) % cn) := rfl
  generalize upc (upc (upc (clE Z) 1 (nI ((oc + 1) % cn))) 2 (2 : Int32)) 3 (eg a) = Y at *
  unfold s_O_add
  rw [y2, y3, if_neg (show ¬ (2 : Int32) = 1 by decide), if_pos rfl]
  by_cases h3 : 300 ≤ nI ke
  · rw [if_pos h3, if_pos h3]
    exact ⟨_, _, _, _, _, _, ou, rfl, rfl, y1, y9, hx, hou, hr, hrw⟩
  · rw [if_neg h3, if_neg h3]
    exact ⟨_, _, _, _, _, _, ou, rfl, rfl, y1, y9, hx, hou, hr, hrw⟩
/-! one step: its parts behind what is agreed -/
def tT2 (uA : Nat → Int32) (F g v : Nat → Nat → Int32) (ko : Nat) (kp Z eg ew : Nat → Int32) (ke : Nat) (pe : Nat → Int32) (sn : Nat) : (Nat → Int32) × (Nat → Nat → Int32) × (Nat → Nat → Int32) × (Nat → Nat → Int32) × Nat × (Nat → Int32) × (Nat → Int32) × (Nat → Int32) × (Nat → Int32) × Nat × (Nat → Int32) × Nat :=
  bnd (s_T_blameNamed uA F) (fun (r, F1) =>
    if r = 0 then (upc uA 6 (1 : Int32), F1, g, v, ko, kp, Z, eg, ew, ke, pe, sn + 1)
    else bnd (s_T_copyOn F1 g v) (fun (F2, g2, v2) => bnd (s_T_forgive uA F2) (fun F3 => (uA, F3, g2, v2, ko, kp, Z, eg, ew, ke, pe, sn + 1))))
def tT1 (uA : Nat → Int32) (F g v : Nat → Nat → Int32) (ko : Nat) (kp Z eg ew : Nat → Int32) (ke : Nat) (pe : Nat → Int32) (sn : Nat) : (Nat → Int32) × (Nat → Nat → Int32) × (Nat → Nat → Int32) × (Nat → Nat → Int32) × Nat × (Nat → Int32) × (Nat → Int32) × (Nat → Int32) × (Nat → Int32) × Nat × (Nat → Int32) × Nat :=
  bnd (s_T_storeInCopies F v) (fun v1 => bnd (s_T_scrub uA F v1) (fun (r, F1, v2) =>
    if r = 0 then (upc uA 6 (1 : Int32), F1, g, v2, ko, kp, Z, eg, ew, ke, pe, sn + 1)
    else bnd (s_T_compareDigests uA F1 g) (fun (r2, F2) =>
      if r2 = 0 then (upc uA 6 (1 : Int32), F2, g, v2, ko, kp, Z, eg, ew, ke, pe, sn + 1)
      else tT2 uA F2 g v2 ko kp Z eg ew ke pe sn)))
def mM2 (sn : Nat) (uA a8 a9 a10 a11 a12 a13 a15 a16 a17 a18 a19 a20 a21 a22 a23 a30 a31 a32 a36 : Nat → Int32) (us wt oc ou ow : Nat) : Int32 × (Nat → Int32) × (Nat → Int32) × (Nat → Int32) × (Nat → Int32) × (Nat → Int32) × (Nat → Int32) × (Nat → Int32) × (Nat → Int32) × (Nat → Int32) × (Nat → Int32) × (Nat → Int32) × (Nat → Int32) × (Nat → Int32) × (Nat → Int32) × (Nat → Int32) × (Nat → Int32) × (Nat → Int32) × (Nat → Int32) × (Nat → Int32) × Nat × Nat × Nat × Nat × Nat × Nat × (Nat → Int32) :=
  bnd (s_M_blameAll uA a11 a12 a13 a17 a23) (fun (r, b11, b12, b13, b17) =>
    if r = 0 then (0, a8, a9, a10, b11, b12, b13, a15, a16, b17, a18, a19, a20, a21, a22, a23, a30, a31, a32, a36, us, wt, oc, ou, ow, sn + 1, uA)
    else bnd (s_M_copyAll a8 a9 a10 b11 b12 a23) (fun (b8, b9, b10, c11, c12) => s_M_stepOnce_cf126_0 sn uA b8 b9 b10 c11 c12 b13 a15 a16 b17 a18 a19 a20 a21 a22 a23 a30 a31 a32 a36 us wt oc ou ow))
def mM1 (sn : Nat) (uB a8 a9 a10 a11 a12 a13 a15 a16 a17 a18 a19 a20 a21 a22 a23 a30 a31 a32 a36 : Nat → Int32) (us wt oc ou ow : Nat) : Int32 × (Nat → Int32) × (Nat → Int32) × (Nat → Int32) × (Nat → Int32) × (Nat → Int32) × (Nat → Int32) × (Nat → Int32) × (Nat → Int32) × (Nat → Int32) × (Nat → Int32) × (Nat → Int32) × (Nat → Int32) × (Nat → Int32) × (Nat → Int32) × (Nat → Int32) × (Nat → Int32) × (Nat → Int32) × (Nat → Int32) × (Nat → Int32) × Nat × Nat × Nat × Nat × Nat × Nat × (Nat → Int32) :=
  bnd (s_M_copyStore a9 a11 a12 a21 a22 a23) (fun c9 => bnd (s_M_scrub uB (sn + 1) c9 a11 a16 a19 a23) (fun (r, b9, b16, b19, b23, y) =>
    if r = 0 then (0, a8, b9, a10, a11, a12, a13, a15, b16, a17, a18, b19, a20, a21, a22, b23, a30, a31, a32, a36, us, wt, oc, ou, ow, sn + 1, upc uB 24 y)
    else if ((nI (sn + 1)) - (nI (sn + 1)) / (16 : Int32) * (16 : Int32)) = 0 then
      bnd (s_M_compareDigests a8 a10 a11 b23) (fun (r2, c23) =>
        if r2 = 0 then (0, a8, b9, a10, a11, a12, a13, a15, b16, a17, a18, b19, a20, a21, a22, c23, a30, a31, a32, a36, us, wt, oc, ou, ow, sn + 1, upc uB 24 y)
        else mM2 sn (upc uB 24 y) a8 b9 a10 a11 a12 a13 a15 b16 a17 a18 b19 a20 a21 a22 c23 a30 a31 a32 a36 us wt oc ou ow)
    else mM2 sn (upc uB 24 y) a8 b9 a10 a11 a12 a13 a15 b16 a17 a18 b19 a20 a21 a22 b23 a30 a31 a32 a36 us wt oc ou ow))
def mdR (cn i : Nat) (F g v a8 a9 a10 a11 a12 a13 a14 a15 : Nat → Int32) : Prop := cpS cn i F g v a8 a9 a10 a11 a12 ∧ F 10 = a13 i ∧ F 11 = a14 i ∧ F 12 = a15 i
theorem mdR_k {cn i : Nat} {F G g v w a8 a9 b9 a10 a11 a12 a13 a14 a15 : Nat → Int32} (h : mdR cn i F g v a8 a9 a10 a11 a12 a13 a14 a15) (hk : kH F G) (hv : rv1 i w b9) : mdR cn i G g w a8 b9 a10 a11 a12 a13 a14 a15 := by
  unfold mdR cpS at *
  rw [hk 1 (by decide) (by decide) (by decide) (by decide) (by decide), hk 8 (by decide) (by decide) (by decide) (by decide) (by decide), hk 9 (by decide) (by decide) (by decide) (by decide) (by decide), hk 10 (by decide) (by decide) (by decide) (by decide) (by decide), hk 11 (by decide) (by decide) (by decide) (by decide) (by decide), hk 12 (by decide) (by decide) (by decide) (by decide) (by decide)]
  exact ⟨⟨h.1.1, hv, h.1.2.2⟩, h.2⟩
theorem kF_H {F G : Nat → Int32} (h : kF F G) : kH F G := fun j _ h2 h3 _ h5 => h j h2 h3 h5
def okM (b11 b12 : Nat → Int32) : Prop := s3 b11 ∧ ∀ i, i < 3 → b11 i = 1 → ∃ k, k < 32 ∧ b12 i = nI k
theorem tail2 {cn sn ko ke us wt oc ou ow : Nat} {uA uM kp Z eg ew pe a8 a9 a10 a11 a12 a13 a14 a15 a16 a17 a18 a19 a20 a21 a22 a23 a30 a31 a32 a36 : Nat → Int32} {F g v : Nat → Nat → Int32} (h7 : uA 7 = uM 5) (hs : uA 8 = nI (sn + 1)) (hm : ∀ i, i < 3 → mdR cn i (F i) (g i) (v i) a8 a9 a10 a11 a12 a13 a14 a15) (h15 : ∀ i, i < 3 → F i 15 = a23 i) (hmk : ∀ i, i < 3 → a11 i = 1 → ∃ k, k < 32 ∧ a12 i = nI k) : ∃ r uT' F' g' v' b8 b9 b10 b11 b12 b13 b17, tT2 uA F g v ko kp Z eg ew ke pe sn = (uT', F', g', v', ko, kp, Z, eg, ew, ke, pe, sn + 1) ∧ mM2 sn uM a8 a9 a10 a11 a12 a13 a15 a16 a17 a18 a19 a20 a21 a22 a23 a30 a31 a32 a36 us wt oc ou ow = (r, b8, b9, b10, b11, b12, b13, a15, a16, b17, a18, a19, a20, a21, a22, a23, a30, a31, a32, a36, us, wt, oc, ou, ow, sn + 1, uM) ∧ ((r = 0 ∧ uT' = upc uA 6 1) ∨ (r = 1 ∧ uT' = uA ∧ okM b11 b12)) ∧ (∀ i, i < 3 → mdR cn i (F' i) (g' i) (v' i) b8 b9 b10 b11 b12 b13 a14 a15) := by
  obtain ⟨r, F1, b11, b12, b13, b17, eT, eM, hr, hb⟩ := blame_rel (uT := uA) (uM := uM) (a17 := a17) h7 (fun i hi => (hm i hi).1.2.2.2.1) (fun i hi => (hm i hi).1.2.2.2.2.1) (fun i hi => (hm i hi).2.1) h15
  have hm1 : ∀ i, i < 3 → mdR cn i (F1 i) (g i) (v i) a8 a9 a10 b11 b12 b13 a14 a15 := fun i hi => by
    obtain ⟨p1, p2, p3, p4, _, _⟩ := hb i hi
    obtain ⟨⟨q1, q2, q3, q4, q5, q6, q7⟩, q8, q9, q10⟩ := hm i hi
    refine ⟨⟨q1, q2, ?_, p1, p2, q6, q7⟩, p3, ?_, ?_⟩
    · rw [p4 1 (by decide) (by decide) (by decide)]; exact q3
    · rw [p4 11 (by decide) (by decide) (by decide)]; exact q9
    · rw [p4 12 (by decide) (by decide) (by decide)]; exact q10
  unfold tT2 mM2
  rw [eT, eM]
  simp only [bnd_eq]
  rcases hr with rfl | ⟨rfl, hs3⟩
  · rw [if_pos rfl, if_pos rfl]
    exact ⟨0, _, F1, g, v, a8, a9, a10, b11, b12, b13, b17, rfl, rfl, Or.inl ⟨rfl, rfl⟩, hm1⟩
  · rw [if_neg (show ¬ (1 : Int32) = 0 by decide), if_neg (show ¬ (1 : Int32) = 0 by decide)]
    have h15' : ∀ i, i < 3 → F1 i 15 = a23 i := fun i hi => by rw [(hb i hi).2.2.2.1 15 (by decide) (by decide) (by decide)]; exact h15 i hi
    have hk : ∀ i, i < 3 → b11 i = 1 → ∃ k, k < 32 ∧ b12 i = nI k := fun i hi h => by
      by_cases z : a23 i = 0
      · obtain ⟨e1, e2⟩ := (hb i hi).2.2.2.2.2 h z
        rw [e2]
        exact hmk i hi e1
      · have h9 := (hm1 i hi).1.2.2.2.2.1 ((hb i hi).1.trans h)
        have e9 : F1 i 9 = 0 := by
          obtain ⟨F2, e2, t2⟩ := tbl3 uA F
          rw [eT] at e2
          have e3 : F1 = F2 := (Prod.mk.inj e2).2
          rw [e3, t2 i hi]
          unfold tBl
          rw [h15 i hi, if_neg z]
          unfold s_D_takeBlame
          split <;> rfl
        exact ⟨0, by decide, h9.symm.trans e9⟩
    obtain ⟨F2, g2, v2, c8, c9, c10, c11, c12, eC, eN, hc, hs3'⟩ := copy_rel (cn := cn) hs3 (fun i hi => (hm1 i hi).1) h15' hk (fun i hi h => ((hb i hi).2.2.2.2.1 h).2)
    rw [eC, eN]
    obtain ⟨d13, eF, hd⟩ := forg_M sn uM c8 c9 c10 c11 c12 b13 a15 a16 b17 a18 a19 a20 a21 a22 a23 a30 a31 a32 a36 us wt oc ou ow
    dsimp only
    rw [eF]
    refine ⟨1, uA, s_T_forgive uA F2, g2, v2, c8, c9, c10, c11, c12, d13, b17, rfl, rfl, Or.inr ⟨rfl, rfl, hs3', fun i hi => (hc i hi).2.2⟩, fun i hi => ?_⟩
    rw [forg_T uA F2 i hi, hs]
    obtain ⟨c, k, _⟩ := hc i hi
    have e10 : F2 i 10 = b13 i := (k 10 (by decide) (by decide) (by decide)).trans (hm1 i hi).2.1
    have e11 : F2 i 11 = a14 i := (k 11 (by decide) (by decide) (by decide)).trans (hm1 i hi).2.2.1
    have e12 : F2 i 12 = a15 i := (k 12 (by decide) (by decide) (by decide)).trans (hm1 i hi).2.2.2
    have hd := hd i hi
    unfold mdR
    rw [hd]
    by_cases h4 : ((nI (sn + 1)) - (nI (sn + 1)) / (4 : Int32) * (4 : Int32)) = 0
    · rw [if_pos h4, if_pos h4]
      unfold tFo mFo
      rw [e10]
      by_cases z : b13 i ≤ 0
      · rw [if_pos z, if_pos z]
        exact ⟨c, e10, e11, e12⟩
      · rw [if_neg z, if_neg z]
        exact ⟨c, rfl, e11, e12⟩
    · rw [if_neg h4, if_neg h4]
      exact ⟨c, e10, e11, e12⟩
theorem tail1 {cn sn ko ke us wt oc ou ow : Nat} {uA uM kp Z eg ew pe a8 a9 a10 a11 a12 a13 a14 a15 a16 a17 a18 a19 a20 a21 a22 a23 a30 a31 a32 a36 : Nat → Int32} {F g v : Nat → Nat → Int32} (h7 : uA 7 = uM 5) (hs : uA 8 = nI (sn + 1)) (hsn : sn + 1 < 2 ^ 31) (hm : ∀ i, i < 3 → mdR cn i (F i) (g i) (v i) a8 a9 a10 a11 a12 a13 a14 a15) (h15 : ∀ i, i < 3 → F i 15 = a23 i ∧ (a23 i = 0 ∨ a23 i = 1)) (h5 : ∀ i, i < 3 → F i 5 = a21 i ∧ optI 32 (a21 i) ∧ (F i 5 = -1 ∨ (F i 6 = a22 i ∧ is16 (F i 6)))) (hmk : ∀ i, i < 3 → a11 i = 1 → ∃ k, k < 32 ∧ a12 i = nI k) : ∃ r uT' F' g' v' b8 b9 b10 b11 b12 b13 b16 b17 b19 b23 uM', tT1 uA F g v ko kp Z eg ew ke pe sn = (uT', F', g', v', ko, kp, Z, eg, ew, ke, pe, sn + 1) ∧ mM1 sn uM a8 a9 a10 a11 a12 a13 a15 a16 a17 a18 a19 a20 a21 a22 a23 a30 a31 a32 a36 us wt oc ou ow = (r, b8, b9, b10, b11, b12, b13, a15, b16, b17, a18, b19, a20, a21, a22, b23, a30, a31, a32, a36, us, wt, oc, ou, ow, sn + 1, uM') ∧ ((r = 0 ∧ uT' = upc uA 6 1) ∨ (r = 1 ∧ uT' = uA ∧ okM b11 b12)) ∧ (∀ i, i < 3 → mdR cn i (F' i) (g' i) (v' i) b8 b9 b10 b11 b12 b13 a14 a15) ∧ (∃ y, uM' = upc uM 24 y) := by
  have hv1 := store_rel (F := F) (a11 := a11) (a12 := a12) (a21 := a21) (a22 := a22) (a23 := a23) (fun i hi => (hm i hi).1.2.1) (fun i hi => (hm i hi).1.2.2.2.1) (fun i hi => (hm i hi).1.2.2.2.2.1) (fun i hi => (h15 i hi).1) (fun i hi => (h5 i hi).1) (fun i hi => (h5 i hi).2.1) (fun i hi => (h5 i hi).2.2)
  obtain ⟨r, F1, v1, b9, b16, b19, b23, y, eT, eM, hr, hvv, hF⟩ := scrub_rel (uT := uA) (uM := uM) (a16 := a16) (a19 := a19) hs hsn hv1 (fun i hi => (hm i hi).1.2.2.2.1) (fun i hi => (h15 i hi).1) (fun i hi => (h15 i hi).2)
  have hm1 : ∀ i, i < 3 → mdR cn i (F1 i) (g i) (v1 i) a8 b9 a10 a11 a12 a13 a14 a15 := fun i hi => mdR_k (hm i hi) (hF i hi).1 (hvv i hi)
  unfold tT1 mM1
  simp only [bnd_eq]
  rw [eT, eM]
  dsimp only
  rcases hr with rfl | rfl
  · rw [if_pos rfl, if_pos rfl]
    exact ⟨0, _, F1, g, v1, a8, b9, a10, a11, a12, a13, b16, a17, b19, b23, _, rfl, rfl, Or.inl ⟨rfl, rfl⟩, hm1, y, rfl⟩
  · rw [if_neg (show ¬ (1 : Int32) = 0 by decide), if_neg (show ¬ (1 : Int32) = 0 by decide)]
    by_cases h16 : ((nI (sn + 1)) - (nI (sn + 1)) / (16 : Int32) * (16 : Int32)) = 0
    · rw [if_pos h16]
      obtain ⟨r2, F2, c23, eD, eN, hr2, hF2⟩ := dig_rel (uT := uA) (F := F1) (g := g) (a8 := a8) (a10 := a10) (a11 := a11) (a23 := b23) (fun i hi => (hm1 i hi).1.1) (fun i hi => (hm1 i hi).1.2.2.1) (fun i hi => (hm1 i hi).1.2.2.2.1) (fun i hi => (hF i hi).2.1) (fun i hi => (hF i hi).2.2) (by rw [hs]; exact h16)
      rw [eD, eN]
      dsimp only
      have hm2 : ∀ i, i < 3 → mdR cn i (F2 i) (g i) (v1 i) a8 b9 a10 a11 a12 a13 a14 a15 := fun i hi => mdR_k (hm1 i hi) (kF_H (hF2 i hi).1) (hvv i hi)
      rcases hr2 with rfl | rfl
      · rw [if_pos rfl, if_pos rfl]
        exact ⟨0, _, F2, g, v1, a8, b9, a10, a11, a12, a13, b16, a17, b19, c23, _, rfl, rfl, Or.inl ⟨rfl, rfl⟩, hm2, y, rfl⟩
      · rw [if_neg (show ¬ (1 : Int32) = 0 by decide), if_neg (show ¬ (1 : Int32) = 0 by decide)]
        obtain ⟨r3, uT', F', g', v', d8, d9, d10, d11, d12, d13, d17, e1, e2, e3, e4⟩ := tail2 (ko := ko) (ke := ke) (kp := kp) (Z := Z) (eg := eg) (ew := ew) (pe := pe) (us := us) (wt := wt) (oc := oc) (ou := ou) (ow := ow) (a16 := b16) (a17 := a17) (a18 := a18) (a19 := b19) (a20 := a20) (a21 := a21) (a22 := a22) (a30 := a30) (a31 := a31) (a32 := a32) (a36 := a36) (uM := upc uM 24 y) h7 hs hm2 (fun i hi => (hF2 i hi).2.1) hmk
        exact ⟨r3, uT', F', g', v', d8, d9, d10, d11, d12, d13, b16, d17, b19, c23, _, e1, e2, e3, e4, y, rfl⟩
    · rw [if_neg h16, dig_T0 uA F1 g (Or.inr (by rw [hs]; exact h16))]
      dsimp only
      rw [if_neg (show ¬ (1 : Int32) = 0 by decide)]
      obtain ⟨r3, uT', F', g', v', d8, d9, d10, d11, d12, d13, d17, e1, e2, e3, e4⟩ := tail2 (ko := ko) (ke := ke) (kp := kp) (Z := Z) (eg := eg) (ew := ew) (pe := pe) (us := us) (wt := wt) (oc := oc) (ou := ou) (ow := ow) (a16 := b16) (a17 := a17) (a18 := a18) (a19 := b19) (a20 := a20) (a21 := a21) (a22 := a22) (a30 := a30) (a31 := a31) (a32 := a32) (a36 := a36) (uM := upc uM 24 y) h7 hs hm1 (fun i hi => (hF i hi).2.1) hmk
      exact ⟨r3, uT', F', g', v', d8, d9, d10, d11, d12, d13, b16, d17, b19, b23, _, e1, e2, e3, e4, y, rfl⟩
/-! one step -/
theorem t1s_eq (uT : Nat → Int32) (F g v : Nat → Nat → Int32) (cn : Nat) (f : Nat → Int32) (kN : Nat) (wN : Nat → Int32) (ko : Nat) (kp Z eg ew : Nat → Int32) (ke : Nat) (pe : Nat → Int32) (sn : Nat) : s_T_doOneStep uT F g v cn f kN wN ko kp Z eg ew ke pe sn = bnd (s_E_doInstruction Z eg ew cn f kN wN ke pe) (fun (Z1, e1, w1, k1, p1) => bnd (s_T_doInstructions F g v cn f) (fun (F1, g1, v1) => bnd (s_T_vote (upc uT 8 ((uT 8) + (1 : Int32))) F1) (fun (r, F2, y) =>
    if r = (-1) then (upc (upc (upc uT 8 ((uT 8) + (1 : Int32))) 9 y) 6 (1 : Int32), F2, g1, v1, ko, kp, Z1, e1, w1, k1, p1, sn + 1)
    else if r = 0 then bnd (s_T_doWhatIsAgreed0 (upc (upc uT 8 ((uT 8) + (1 : Int32))) 9 y) F2 g1 kN wN ko kp) (fun (g2, ko2, kp2, y2) => tT1 (upc (upc (upc uT 8 ((uT 8) + (1 : Int32))) 9 y) 10 y2) F2 g2 v1 ko2 kp2 Z1 e1 w1 k1 p1 sn)
    else if r = 1 then bnd (s_T_doWhatIsAgreed1 (upc (upc uT 8 ((uT 8) + (1 : Int32))) 9 y) F2 g1 kN wN ko kp) (fun (g2, ko2, kp2, y2) => tT1 (upc (upc (upc uT 8 ((uT 8) + (1 : Int32))) 9 y) 10 y2) F2 g2 v1 ko2 kp2 Z1 e1 w1 k1 p1 sn)
    else bnd (s_T_doWhatIsAgreed2 (upc (upc uT 8 ((uT 8) + (1 : Int32))) 9 y) F2 g1 kN wN ko kp) (fun (g2, ko2, kp2, y2) => tT1 (upc (upc (upc uT 8 ((uT 8) + (1 : Int32))) 9 y) 10 y2) F2 g2 v1 ko2 kp2 Z1 e1 w1 k1 p1 sn)))) := by
  unfold s_T_doOneStep s_T_doOneStep_ca55 tT1 tT2
  simp only [bnd_eq]
theorem m1s_eq (uM : Nat → Int32) (sn cm us wt : Nat) (a11 a12 a13 a17 a28 a30 : Nat → Int32) (y24 : Int32) (a8 a9 a10 a15 a16 a18 a19 a20 a21 a22 a23 a31 a32 a36 : Nat → Int32) (oc ou ow : Nat) : s_M_stepOnce_cut16_3 uM sn cm us wt a11 a12 a13 a17 a28 a30 y24 a8 a9 a10 a15 a16 a18 a19 a20 a21 a22 a23 a31 a32 a36 oc ou ow = bnd (s_M_vote (upc uM 24 y24) a11 a18 a19 a23) (fun (r, b23, y) =>
    if r = (-1) then (0, a8, a9, a10, a11, a12, a13, a15, a16, a17, a18, a19, a20, a21, a22, b23, a30, a31, a32, a36, us, wt, oc, ou, ow, sn + 1, upc (upc uM 24 y24) 7 y)
    else if r = 0 then bnd (s_M_agreed cm us wt a8 a11 a18 a20 a28 a30 0) (fun (b8, b30, us2, wt2) => mM1 sn (upc (upc uM 24 y24) 7 y) b8 a9 a10 a11 a12 a13 a15 a16 a17 a18 a19 a20 a21 a22 b23 b30 a31 a32 a36 us2 wt2 oc ou ow)
    else if r = 1 then bnd (s_M_agreed cm us wt a8 a11 a18 a20 a28 a30 1) (fun (b8, b30, us2, wt2) => mM1 sn (upc (upc uM 24 y24) 7 y) b8 a9 a10 a11 a12 a13 a15 a16 a17 a18 a19 a20 a21 a22 b23 b30 a31 a32 a36 us2 wt2 oc ou ow)
    else bnd (s_M_agreed cm us wt a8 a11 a18 a20 a28 a30 2) (fun (b8, b30, us2, wt2) => mM1 sn (upc (upc uM 24 y24) 7 y) b8 a9 a10 a11 a12 a13 a15 a16 a17 a18 a19 a20 a21 a22 b23 b30 a31 a32 a36 us2 wt2 oc ou ow)) := by
  unfold s_M_stepOnce_cut16_3 s_M_stepOnce_cg79 s_M_stepOnce_ch111 mM1 mM2
  simp only [bnd_eq]
theorem step_rel {uT f wN kp Z eg ew pe uM a8 a9 a10 a11 a12 a13 a14 a15 a16 a17 a18 a19 a20 a21 a22 a23 : Nat → Int32} {F g v : Nat → Nat → Int32} {cn kN ko ke sn us oc ou : Nat} (hc : prI cn f) (hbd : ∀ j, j < cn → bad cn (f j) = false) (hpos : 0 < cn) (hkN : kN ≤ 64) (hwN : wdI 64 wN) (hus : us ≤ kN) (hou : ou ≤ kN) (hoc : oc < cn) (heg : wdI 8 eg) (hew : wdI 32 ew) (hsn : sn + 2 < 2 ^ 30) (hok : okM a11 a12) (h7 : uT 7 = uM 5) (h9 : uT 9 = uM 7) (h10 : uT 10 = nI us) (h8 : uT 8 = nI sn) (hZ1 : Z 1 = nI oc) (hZ9 : Z 9 = nI ou) (hm : ∀ i, i < 3 → mdR cn i (F i) (g i) (v i) a8 a9 a10 a11 a12 a13 a14 a15) : ∃ r uT' F' g' v' ko' kp' Z' eg' ew' ke' pe' b8 b9 b10 b11 b12 b13 b15 b16 b17 b18 b19 b20 b21 b22 b23 us' oc' ou' uM', s_T_doOneStep uT F g v cn f kN wN ko kp Z eg ew ke pe sn = (uT', F', g', v', ko', kp', Z', eg', ew', ke', pe', sn + 1) ∧ s_M_stepOnce uM cn sn kN us ko oc ou ke f a8 a9 a10 a11 a12 a13 a14 a15 a16 a17 a18 a19 a20 a21 a22 a23 wN kp eg ew pe = (r, b8, b9, b10, b11, b12, b13, b15, b16, b17, b18, b19, b20, b21, b22, b23, kp', eg', ew', pe', us', ko', oc', ou', ke', sn + 1, uM') ∧ ((r = 0 ∧ uT' 6 = 1) ∨ (r = 1 ∧ uT' 6 = uT 6 ∧ okM b11 b12)) ∧ (∀ i, i < 3 → mdR cn i (F' i) (g' i) (v' i) b8 b9 b10 b11 b12 b13 a14 b15) ∧ (uT' 7 = uM' 5 ∧ uT' 9 = uM' 7 ∧ uT' 10 = nI us' ∧ uT' 8 = nI (sn + 1) ∧ uT' 5 = uT 5 ∧ uM' 3 = uM 3 ∧ uM' 4 = uM 4 ∧ uM' 0 = uM 0) ∧ (Z' 1 = nI oc' ∧ Z' 9 = nI ou' ∧ us' ≤ kN ∧ ou' ≤ kN ∧ oc' < cn ∧ wdI 8 eg' ∧ wdI 32 ew') := by
  obtain ⟨Z1, e1, w1, k1, p1, oc1, ou1, eE, eQ, z1, z9, hoc1, hou1, he1, hw1⟩ := perf_rel (ke := ke) (pe := pe) hc hbd hZ1 hoc hZ9 hou hkN heg hew hwN
  have hr0 : ∀ i, i < 3 → r0 i cn (F i) (g i) (v i) a8 a9 a10 a11 a14 a15 := fun i hi => by
    obtain ⟨⟨q1, q2, q3, q4, q5, q6, q7⟩, q8, q9, q10⟩ := hm i hi
    exact ⟨q1, q2, q3, q7, q4, q9, q10, q6⟩
  obtain ⟨b8, b9, b10, b15, b16, b18, b19, b20, b21, b22, b23, z24, eI, s0, s1, s2⟩ := instr_all (uM := uM) (a12 := a12) (a13 := a13) (a16 := a16) (a17 := a17) (a18 := a18) (a19 := a19) (a20 := a20) (a21 := a21) (a22 := a22) (a23 := a23) (a28 := wN) (a30 := kp) (a31 := e1) (a32 := w1) (a36 := p1) (sn := sn) (cm := kN) (us := us) (wt := ko) (ocx := oc1) (oux := ou1) (owx := k1) (y24 := uM 24) hc hbd hpos (hr0 0 (by decide)) (hr0 1 (by decide)) (hr0 2 (by decide))
  have eM0 : s_M_stepOnce uM cn sn kN us ko oc ou ke f a8 a9 a10 a11 a12 a13 a14 a15 a16 a17 a18 a19 a20 a21 a22 a23 wN kp eg ew pe = s_M_stepOnce_cut16_3 uM sn kN us ko a11 a12 a13 a17 wN kp z24 b8 b9 b10 b15 b16 b18 b19 b20 b21 b22 b23 e1 w1 p1 oc1 ou1 k1 := by
    unfold s_M_stepOnce
    rw [eQ]
    exact eI
  rw [t1s_eq, eM0, m1s_eq, eE]
  generalize s_T_doInstructions F g v cn f = DI at *
  obtain ⟨F1, g1, v1⟩ := DI
  have si : ∀ i, i < 3 → siP i cn (F i) (F1 i) (g1 i) (v1 i) b8 b9 b10 b15 b18 b19 b20 b21 b22 b23 := all3 s0 s1 s2
  have h8' : ∀ i, i < 3 → F1 i 8 = a11 i := fun i hi => (si i hi).2.1.1.trans (hm i hi).1.2.2.2.1
  have V := vote_rel (uT := upc uT 8 ((uT 8) + (1 : Int32))) (uM := upc uM 24 z24) (F := F1) (a18 := b18) (a19 := b19) (a23 := b23) hok.1 h9 h8' (fun i hi => ⟨(si i hi).2.1.2.2.2.2.2.1.trans (si i hi).2.1.2.2.2.2.2.2, (si i hi).2.1.2.2.2.2.2.2⟩) (fun i hi h => (si i hi).2.2.1 ((hm i hi).1.2.2.2.1.trans h))
  simp only [bnd_eq]
  generalize s_T_vote (upc uT 8 ((uT 8) + (1 : Int32))) F1 = TV at *
  generalize s_M_vote (upc uM 24 z24) a11 b18 b19 b23 = MV at *
  obtain ⟨r, F2, y⟩ := TV
  obtain ⟨r', c23, y'⟩ := MV
  obtain ⟨er, ey, hF2, hrr⟩ := V
  dsimp only at er ey hF2 hrr ⊢
  subst er ey
  have hm1 : ∀ i, i < 3 → mdR cn i (F2 i) (g1 i) (v1 i) b8 b9 b10 a11 a12 a13 a14 b15 := fun i hi => by
    obtain ⟨⟨p1, p2, p3, p4⟩, ⟨p5, p6, p7, p8, p9, _, _⟩, _, _, ⟨_, _, _, p10⟩⟩ := si i hi
    have hk := kF_H (hF2 i hi).2.2
    obtain ⟨⟨q1, q2, q3, q4, q5, q6, q7⟩, q8, q9, q10⟩ := hm i hi
    have : mdR cn i (F1 i) (g1 i) (v1 i) b8 b9 b10 a11 a12 a13 a14 b15 := ⟨⟨p1, p2, p3, p5.trans q4, fun h => p6.trans (q5 (p5.symm.trans h)), p10, p4⟩, p7.trans q8, p8.trans q9, p9⟩
    exact mdR_k this hk p2
  have k2 : ∀ i, i < 3 → ∀ j, ¬ j = 14 → ¬ j = 15 → ¬ j = 18 → F2 i j = F1 i j := fun i hi => (hF2 i hi).2.2
  have h5 : ∀ i, i < 3 → F2 i 5 = b21 i ∧ optI 32 (b21 i) ∧ (F2 i 5 = -1 ∨ (F2 i 6 = b22 i ∧ is16 (F2 i 6))) := fun i hi => by
    obtain ⟨p1, p2, p3, _⟩ := (si i hi).2.2.2.2
    rw [k2 i hi 5 (by decide) (by decide) (by decide), k2 i hi 6 (by decide) (by decide) (by decide)]
    exact ⟨p1, p2, p3⟩
  have h4 : ∀ i, i < 3 → F2 i 4 = b20 i := fun i hi => by rw [k2 i hi 4 (by decide) (by decide) (by decide)]; exact (si i hi).2.2.2.1.1
  have ho : ∀ i, i < 3 → optI 8 (b20 i) := fun i hi => (si i hi).2.2.2.1.2
  have hw2 : ∀ i, i < 3 → a11 i = 0 → wr (F2 i 2) (F2 i 3) (b18 i) := fun i hi h => by
    rw [k2 i hi 2 (by decide) (by decide) (by decide), k2 i hi 3 (by decide) (by decide) (by decide)]
    exact ((si i hi).2.2.1 ((hm i hi).1.2.2.2.1.trans h)).1
  have h81 : nI sn + 1 = nI (sn + 1) := nI_1 sn
  rcases hrr with rfl | ⟨rfl, ha⟩ | ⟨rfl, ha⟩ | ⟨rfl, ha⟩
  · rw [if_pos rfl, if_pos rfl]
    refine ⟨0, _, F2, g1, v1, ko, kp, Z1, e1, w1, k1, p1, b8, b9, b10, a11, a12, a13, b15, b16, a17, b18, b19, b20, b21, b22, c23, us, oc1, ou1, _, rfl, rfl, Or.inl ⟨rfl, rfl⟩, hm1, ⟨h7, rfl, h10, ?_, rfl, rfl, rfl, rfl⟩, ⟨z1, z9, hus, hou1, hoc1, he1, hw1⟩⟩
    show uT 8 + 1 = nI (sn + 1)
    rw [h8, h81]
  · rw [if_neg (show ¬ (0 : Int32) = -1 by decide), if_neg (show ¬ (0 : Int32) = -1 by decide), if_pos rfl, if_pos rfl]
    obtain ⟨g2, ko2, kp2, us2, c8, eA, eB, hu2, hg2⟩ := agreed_0 (uT := upc (upc uT 8 ((uT 8) + (1 : Int32))) 9 y) (ko := ko) (kp := kp) (wN := wN) (a11 := a11) (hw2 0 (by decide) ha) h10 hkN hus (fun i hi => (hm1 i hi).1.1) (fun i hi => (hm1 i hi).1.2.2.2.1) h4 ho (fun i hi => (hm1 i hi).1.2.2.2.2.2.1) hwN
    rw [eA, eB]
    dsimp only
    have hm2 : ∀ i, i < 3 → mdR cn i (F2 i) (g2 i) (v1 i) c8 b9 b10 a11 a12 a13 a14 b15 := fun i hi => by
      obtain ⟨⟨q1, q2, q3, q4, q5, q6, q7⟩, q8⟩ := hm1 i hi
      exact ⟨⟨(hg2 i hi).1, q2, q3, q4, q5, (hg2 i hi).2, q7⟩, q8⟩
    obtain ⟨r3, uT', F', g', v', d8, d9, d10, d11, d12, d13, d16, d17, d19, d23, uM', x1, x2, x3, x4, yy, x5⟩ := tail1 (uA := upc (upc (upc uT 8 ((uT 8) + (1 : Int32))) 9 y) 10 (nI us2)) (uM := upc (upc uM 24 z24) 7 y) (sn := sn) (ko := ko2) (ke := k1) (kp := kp2) (Z := Z1) (eg := e1) (ew := w1) (pe := p1) (us := us2) (wt := ko2) (oc := oc1) (ou := ou1) (ow := k1) (a16 := b16) (a17 := a17) (a18 := b18) (a19 := b19) (a20 := b20) (a30 := kp2) (a31 := e1) (a32 := w1) (a36 := p1) h7 (by show uT 8 + 1 = nI (sn + 1); rw [h8, h81]) (by omega) hm2 (fun i hi => ⟨(hF2 i hi).1, (hF2 i hi).2.1⟩) h5 hok.2
    refine ⟨r3, uT', F', g', v', ko2, kp2, Z1, e1, w1, k1, p1, d8, d9, d10, d11, d12, d13, b15, d16, d17, b18, d19, b20, b21, b22, d23, us2, oc1, ou1, uM', x1, x2, ?_, x4, ?_, ⟨z1, z9, hu2, hou1, hoc1, he1, hw1⟩⟩
    · rcases x3 with ⟨e1, e2⟩ | ⟨e1, e2, e3⟩
      · exact Or.inl ⟨e1, by rw [e2]; rfl⟩
      · exact Or.inr ⟨e1, by rw [e2]; rfl, e3⟩
    · subst x5
      rcases x3 with ⟨e1, e2⟩ | ⟨e1, e2, e3⟩
      · subst e2
        refine ⟨h7, rfl, rfl, ?_, rfl, rfl, rfl, rfl⟩
        show uT 8 + 1 = nI (sn + 1)
        rw [h8, h81]
      · subst e2
        refine ⟨h7, rfl, rfl, ?_, rfl, rfl, rfl, rfl⟩
        show uT 8 + 1 = nI (sn + 1)
        rw [h8, h81]
  · simp only [q1n, q10, if_true, if_false]
    obtain ⟨g2, ko2, kp2, us2, c8, eA, eB, hu2, hg2⟩ := agreed_1 (uT := upc (upc uT 8 ((uT 8) + (1 : Int32))) 9 y) (ko := ko) (kp := kp) (wN := wN) (a11 := a11) (hw2 1 (by decide) ha) h10 hkN hus (fun i hi => (hm1 i hi).1.1) (fun i hi => (hm1 i hi).1.2.2.2.1) h4 ho (fun i hi => (hm1 i hi).1.2.2.2.2.2.1) hwN
    rw [eA, eB]
    dsimp only
    have hm2 : ∀ i, i < 3 → mdR cn i (F2 i) (g2 i) (v1 i) c8 b9 b10 a11 a12 a13 a14 b15 := fun i hi => by
      obtain ⟨⟨q1, q2, q3, q4, q5, q6, q7⟩, q8⟩ := hm1 i hi
      exact ⟨⟨(hg2 i hi).1, q2, q3, q4, q5, (hg2 i hi).2, q7⟩, q8⟩
    obtain ⟨r3, uT', F', g', v', d8, d9, d10, d11, d12, d13, d16, d17, d19, d23, uM', x1, x2, x3, x4, yy, x5⟩ := tail1 (uA := upc (upc (upc uT 8 ((uT 8) + (1 : Int32))) 9 y) 10 (nI us2)) (uM := upc (upc uM 24 z24) 7 y) (sn := sn) (ko := ko2) (ke := k1) (kp := kp2) (Z := Z1) (eg := e1) (ew := w1) (pe := p1) (us := us2) (wt := ko2) (oc := oc1) (ou := ou1) (ow := k1) (a16 := b16) (a17 := a17) (a18 := b18) (a19 := b19) (a20 := b20) (a30 := kp2) (a31 := e1) (a32 := w1) (a36 := p1) h7 (by show uT 8 + 1 = nI (sn + 1); rw [h8, h81]) (by omega) hm2 (fun i hi => ⟨(hF2 i hi).1, (hF2 i hi).2.1⟩) h5 hok.2
    refine ⟨r3, uT', F', g', v', ko2, kp2, Z1, e1, w1, k1, p1, d8, d9, d10, d11, d12, d13, b15, d16, d17, b18, d19, b20, b21, b22, d23, us2, oc1, ou1, uM', x1, x2, ?_, x4, ?_, ⟨z1, z9, hu2, hou1, hoc1, he1, hw1⟩⟩
    · rcases x3 with ⟨e1, e2⟩ | ⟨e1, e2, e3⟩
      · exact Or.inl ⟨e1, by rw [e2]; rfl⟩
      · exact Or.inr ⟨e1, by rw [e2]; rfl, e3⟩
    · subst x5
      rcases x3 with ⟨e1, e2⟩ | ⟨e1, e2, e3⟩
      · subst e2
        refine ⟨h7, rfl, rfl, ?_, rfl, rfl, rfl, rfl⟩
        show uT 8 + 1 = nI (sn + 1)
        rw [h8, h81]
      · subst e2
        refine ⟨h7, rfl, rfl, ?_, rfl, rfl, rfl, rfl⟩
        show uT 8 + 1 = nI (sn + 1)
        rw [h8, h81]
  · simp only [q2n, q20, q21, if_true, if_false]
    obtain ⟨g2, ko2, kp2, us2, c8, eA, eB, hu2, hg2⟩ := agreed_2 (uT := upc (upc uT 8 ((uT 8) + (1 : Int32))) 9 y) (ko := ko) (kp := kp) (wN := wN) (a11 := a11) (hw2 2 (by decide) ha) h10 hkN hus (fun i hi => (hm1 i hi).1.1) (fun i hi => (hm1 i hi).1.2.2.2.1) h4 ho (fun i hi => (hm1 i hi).1.2.2.2.2.2.1) hwN
    rw [eA, eB]
    dsimp only
    have hm2 : ∀ i, i < 3 → mdR cn i (F2 i) (g2 i) (v1 i) c8 b9 b10 a11 a12 a13 a14 b15 := fun i hi => by
      obtain ⟨⟨q1, q2, q3, q4, q5, q6, q7⟩, q8⟩ := hm1 i hi
      exact ⟨⟨(hg2 i hi).1, q2, q3, q4, q5, (hg2 i hi).2, q7⟩, q8⟩
    obtain ⟨r3, uT', F', g', v', d8, d9, d10, d11, d12, d13, d16, d17, d19, d23, uM', x1, x2, x3, x4, yy, x5⟩ := tail1 (uA := upc (upc (upc uT 8 ((uT 8) + (1 : Int32))) 9 y) 10 (nI us2)) (uM := upc (upc uM 24 z24) 7 y) (sn := sn) (ko := ko2) (ke := k1) (kp := kp2) (Z := Z1) (eg := e1) (ew := w1) (pe := p1) (us := us2) (wt := ko2) (oc := oc1) (ou := ou1) (ow := k1) (a16 := b16) (a17 := a17) (a18 := b18) (a19 := b19) (a20 := b20) (a30 := kp2) (a31 := e1) (a32 := w1) (a36 := p1) h7 (by show uT 8 + 1 = nI (sn + 1); rw [h8, h81]) (by omega) hm2 (fun i hi => ⟨(hF2 i hi).1, (hF2 i hi).2.1⟩) h5 hok.2
    refine ⟨r3, uT', F', g', v', ko2, kp2, Z1, e1, w1, k1, p1, d8, d9, d10, d11, d12, d13, b15, d16, d17, b18, d19, b20, b21, b22, d23, us2, oc1, ou1, uM', x1, x2, ?_, x4, ?_, ⟨z1, z9, hu2, hou1, hoc1, he1, hw1⟩⟩
    · rcases x3 with ⟨e1, e2⟩ | ⟨e1, e2, e3⟩
      · exact Or.inl ⟨e1, by rw [e2]; rfl⟩
      · exact Or.inr ⟨e1, by rw [e2]; rfl, e3⟩
    · subst x5
      rcases x3 with ⟨e1, e2⟩ | ⟨e1, e2, e3⟩
      · subst e2
        refine ⟨h7, rfl, rfl, ?_, rfl, rfl, rfl, rfl⟩
        show uT 8 + 1 = nI (sn + 1)
        rw [h8, h81]
      · subst e2
        refine ⟨h7, rfl, rfl, ?_, rfl, rfl, rfl, rfl⟩
        show uT 8 + 1 = nI (sn + 1)
        rw [h8, h81]
/-! many steps -/
theorem steps_rel {cn kN : Nat} {f wN a14 : Nat → Int32} : ∀ (n q : Nat) (uT : Nat → Int32) (F g v : Nat → Nat → Int32) (ko : Nat) (kp Z eg ew : Nat → Int32) (ke : Nat) (pe : Nat → Int32) (sn : Nat) (uM a8 a9 a10 a11 a12 a13 a15 a16 a17 a18 a19 a20 a21 a22 a23 : Nat → Int32) (us oc ou : Nat), prI cn f → (∀ j, j < cn → bad cn (f j) = false) → 0 < cn → kN ≤ 64 → wdI 64 wN → us ≤ kN → ou ≤ kN → oc < cn → wdI 8 eg → wdI 32 ew → sn + n + 2 < 2 ^ 30 → (uM 4 = 0 → okM a11 a12) → uT 6 = uM 4 → uT 7 = uM 5 → uT 9 = uM 7 → uT 10 = nI us → uT 8 = nI sn → Z 1 = nI oc → Z 9 = nI ou → (∀ i, i < 3 → mdR cn i (F i) (g i) (v i) a8 a9 a10 a11 a12 a13 a14 a15) → ∃ r uT' F' g' v' ko' kp' Z' eg' ew' ke' pe' sn' b8 b9 b10 b11 b12 b13 b15 b16 b17 b18 b19 b20 b21 b22 b23 us' oc' ou' uM', s_T_step_loop cn f kN wN n q uT F g v ko kp Z eg ew ke pe sn = (r, uT', F', g', v', ko', kp', Z', eg', ew', ke', pe', sn') ∧ s_M_step_loop cn kN f a14 wN n q a8 a9 a10 a11 a12 a13 a15 a16 a17 a18 a19 a20 a21 a22 a23 kp eg ew pe us ko oc ou ke sn uM = (r, b8, b9, b10, b11, b12, b13, b15, b16, b17, b18, b19, b20, b21, b22, b23, kp', eg', ew', pe', us', ko', oc', ou', ke', sn', uM') ∧ (∀ i, i < 3 → mdR cn i (F' i) (g' i) (v' i) b8 b9 b10 b11 b12 b13 a14 b15) ∧ (uT' 6 = uM' 4 ∧ uT' 7 = uM' 5 ∧ uT' 9 = uM' 7 ∧ uT' 10 = nI us' ∧ Z' 1 = nI oc' ∧ Z' 9 = nI ou' ∧ uM' 0 = uM 0) := by
  intro n
  induction n with
  | zero =>
    intro q uT F g v ko kp Z eg ew ke pe sn uM a8 a9 a10 a11 a12 a13 a15 a16 a17 a18 a19 a20 a21 a22 a23 us oc ou hc hbd hpos hkN hwN hus hou hoc heg hew hsn hok h6 h7 h9 h10 h8 hZ1 hZ9 hm
    exact ⟨nI q, uT, F, g, v, ko, kp, Z, eg, ew, ke, pe, sn, a8, a9, a10, a11, a12, a13, a15, a16, a17, a18, a19, a20, a21, a22, a23, us, oc, ou, uM, rfl, rfl, hm, h6, h7, h9, h10, hZ1, hZ9, rfl⟩
  | succ n ih =>
    intro q uT F g v ko kp Z eg ew ke pe sn uM a8 a9 a10 a11 a12 a13 a15 a16 a17 a18 a19 a20 a21 a22 a23 us oc ou hc hbd hpos hkN hwN hus hou hoc heg hew hsn hok h6 h7 h9 h10 h8 hZ1 hZ9 hm
    rw [s_T_step_loop, s_M_step_loop, h6]
    by_cases z : uM 4 = 0
    · rw [if_pos z, if_pos z]
      obtain ⟨r, uT', F', g', v', ko', kp', Z', eg', ew', ke', pe', b8, b9, b10, b11, b12, b13, b15, b16, b17, b18, b19, b20, b21, b22, b23, us', oc', ou', uM', eT, eM, hr, hm', ⟨k7, k9, k10, k8, k5, m3, m4, m0⟩, ⟨z1, z9, hu, ho, hc', he', hw'⟩⟩ := step_rel (uT := uT) (F := F) (g := g) (v := v) (ko := ko) (kp := kp) (Z := Z) (eg := eg) (ew := ew) (ke := ke) (pe := pe) (sn := sn) (uM := uM) (a16 := a16) (a17 := a17) (a18 := a18) (a19 := a19) (a20 := a20) (a21 := a21) (a22 := a22) (a23 := a23) hc hbd hpos hkN hwN hus hou hoc heg hew (by omega) (hok z) h7 h9 h10 h8 hZ1 hZ9 hm
      rw [eT, eM]
      simp only [bnd_eq]
      rcases hr with ⟨rfl, e6⟩ | ⟨rfl, e6, hok'⟩
      · rw [if_pos rfl]
        rw [← m0]
        exact ih (q + 1) uT' F' g' v' ko' kp' Z' eg' ew' ke' pe' (sn + 1) (upc uM' 4 1) b8 b9 b10 b11 b12 b13 b15 b16 b17 b18 b19 b20 b21 b22 b23 us' oc' ou' hc hbd hpos hkN hwN hu ho hc' he' hw' (by omega) (fun h => absurd (show (1 : Int32) = 0 from h) (by decide)) e6 k7 k9 k10 k8 z1 z9 hm'
      · rw [if_neg (show ¬ (1 : Int32) = 0 by decide)]
        rw [← m0]
        exact ih (q + 1) uT' F' g' v' ko' kp' Z' eg' ew' ke' pe' (sn + 1) (upc uM' 4 0) b8 b9 b10 b11 b12 b13 b15 b16 b17 b18 b19 b20 b21 b22 b23 us' oc' ou' hc hbd hpos hkN hwN hu ho hc' he' hw' (by omega) (fun _ => hok') (e6.trans (h6.trans z)) k7 k9 k10 k8 z1 z9 hm'
    · rw [if_neg z, if_neg z]
      exact ⟨nI q, uT, F, g, v, ko, kp, Z, eg, ew, ke, pe, sn, a8, a9, a10, a11, a12, a13, a15, a16, a17, a18, a19, a20, a21, a22, a23, us, oc, ou, uM, rfl, rfl, hm, h6, h7, h9, h10, hZ1, hZ9, rfl⟩
/-! between calls -/
def mdQ (i : Nat) (F g v a8 a9 a10 a11 a12 a13 a14 a15 : Nat → Int32) : Prop := rg1 i g a8 ∧ rv1 i v a9 ∧ F 1 = a10 i ∧ F 8 = a11 i ∧ (F 8 = 1 → F 9 = a12 i) ∧ F 10 = a13 i ∧ F 11 = a14 i ∧ F 12 = a15 i
def relA (uT : Nat → Int32) (F g v : Nat → Nat → Int32) (kN : Nat) (wN : Nat → Int32) (ko : Nat) (kp Z eg ew : Nat → Int32) (ke : Nat) (pe : Nat → Int32) (sn : Nat) (uM : Nat → Int32) (sm cm us wt oc ou ow : Nat) (a8 a9 a10 a11 a12 a13 a14 a15 a28 a30 a31 a32 a36 : Nat → Int32) : Prop :=
  (uT 6 = uM 4 ∧ uT 7 = uM 5 ∧ uT 9 = uM 7 ∧ uT 10 = nI us ∧ sn = sm ∧ (uM 3 = 0 → wt = 0 ∧ ow = 0)) ∧ (kN = cm ∧ wN = a28 ∧ ko = wt ∧ kp = a30) ∧ (ke = ow ∧ pe = a36 ∧ eg = a31 ∧ ew = a32 ∧ Z 1 = nI oc ∧ Z 9 = nI ou) ∧ (∀ i, i < 3 → mdQ i (F i) (g i) (v i) a8 a9 a10 a11 a12 a13 a14 a15)
theorem mdQ_R {cn i : Nat} {F g v a8 a9 a10 a11 a12 a13 a14 a15 : Nat → Int32} (h : mdQ i F g v a8 a9 a10 a11 a12 a13 a14 a15) (hg : wdI 8 g) (hc : ∃ k, k < cn ∧ a10 i = nI k) : mdR cn i F g v a8 a9 a10 a11 a12 a13 a14 a15 := by
  obtain ⟨p1, p2, p3, p4, p5, p6, p7, p8⟩ := h
  exact ⟨⟨p1, p2, p3, p4, p5, hg, hc⟩, p6, p7, p8⟩
theorem mdR_Q {cn i : Nat} {F g v a8 a9 a10 a11 a12 a13 a14 a15 : Nat → Int32} (h : mdR cn i F g v a8 a9 a10 a11 a12 a13 a14 a15) : mdQ i F g v a8 a9 a10 a11 a12 a13 a14 a15 := by
  obtain ⟨⟨p1, p2, p3, p4, p5, _, _⟩, p6, p7, p8⟩ := h
  exact ⟨p1, p2, p3, p4, p5, p6, p7, p8⟩
theorem rl_step {cn xN : Nat} {uT f wN kp Z eg ew pe uM a8 a9 a10 a11 a12 a13 a14 a15 a16 a17 a18 a19 a20 a21 a22 a23 a28 a30 a31 a32 a36 : Nat → Int32} {F g v : Nat → Nat → Int32} {kN ko ke sn sm cm us wt oc ou ow : Nat} {lo lo2 : Nat → Int64} {r : Int32} {uT2 kp2 Z2 eg2 ew2 pe2 uM2 b8 b9 b10 b11 b12 b13 b15 b16 b17 b18 b19 b20 b21 b22 b23 b30 b31 b32 b36 : Nat → Int32} {F2 g2 v2 : Nat → Nat → Int32} {ko2 ke2 sn2 sm2 us2 wt2 oc2 ou2 ow2 : Nat} (hR : relA uT F g v kN wN ko kp Z eg ew ke pe sn uM sm cm us wt oc ou ow a8 a9 a10 a11 a12 a13 a14 a15 a28 a30 a31 a32 a36) (hg : g3 g) (hc : prI cn f) (hbd : ∀ j, j < cn → bad cn (f j) = false) (hpos : 0 < cn) (hkN : kN ≤ 64) (hwN : wdI 64 wN) (he : eI Z eg ew) (hsn : uT 8 = nI sn) (h10 : c3I cn a10) (h12 : mk3 a11 a12) (hoc : oc < cn) (hus : us ≤ cm) (hou : ou ≤ cm) (hin : uM 4 = 0 → s3 a11) (hs : sm + 2002 < 2 ^ 30) (hx : xN ≤ 2000) (h3 : ¬ uM2 3 = 0)
    (eT : (uT2, F2, g2, v2, ko2, kp2, Z2, eg2, ew2, ke2, pe2, sn2, lo2) = s_L_step_r uT F g v cn f kN wN ko kp Z eg ew ke pe sn xN lo) (eM : (r, b8, b9, b10, b11, b12, b13, b15, b16, b17, b18, b19, b20, b21, b22, b23, b30, b31, b32, b36, us2, wt2, oc2, ou2, ow2, sm2, uM2) = s_M_step uM cn sm cm us wt oc ou ow f a8 a9 a10 a11 a12 a13 a14 a15 a16 a17 a18 a19 a20 a21 a22 a23 a28 a30 a31 a32 a36 xN) :
    relA uT2 F2 g2 v2 kN wN ko2 kp2 Z2 eg2 ew2 ke2 pe2 sn2 uM2 sm2 cm us2 wt2 oc2 ou2 ow2 b8 b9 b10 b11 b12 b13 a14 b15 a28 b30 b31 b32 b36 ∧ lo2 0 = r.toInt64 ∧ uM2 0 = 0 := by
  obtain ⟨⟨r1, r2, r3, r4, rfl, _⟩, ⟨rfl, rfl, rfl, rfl⟩, ⟨rfl, rfl, rfl, rfl, r5, r6⟩, hm⟩ := hR
  have hm' : ∀ i, i < 3 → mdR cn i (F i) (g i) (v i) a8 a9 a10 a11 a12 a13 a14 a15 := fun i hi => mdQ_R (hm i hi) (all3 (P := fun i => wdI 8 (g i)) hg.1 hg.2.1 hg.2.2 i hi) (h10 i hi)
  obtain ⟨r', uT', F', g', v', ko', kp', Z', eg', ew', ke', pe', sn', c8, c9, c10, c11, c12, c13, c15, c16, c17, c18, c19, c20, c21, c22, c23, us', oc', ou', uM', e1, e2, hmm, k1, k2, k3, k4, k5, k6, k0⟩ := steps_rel (cn := cn) (kN := kN) (f := f) (wN := wN) (a14 := a14) xN 0 uT F g v ko kp Z eg ew ke pe sn (upc uM 0 0) a8 a9 a10 a11 a12 a13 a15 a16 a17 a18 a19 a20 a21 a22 a23 us oc ou hc hbd hpos hkN hwN hus hou hoc he.2.2.1 he.2.2.2 (by omega) (fun h => ⟨hin h, h12⟩) r1 r2 r3 r4 hsn r5 r6 hm'
  unfold s_L_step_r s_T_step at eT
  unfold s_M_step at eM
  rw [e1] at eT
  rw [e2] at eM
  simp only [bnd_eq, Prod.mk.injEq] at eT eM
  obtain ⟨rfl, rfl, rfl, rfl, rfl, rfl, rfl, rfl, rfl, rfl, rfl, rfl, rfl⟩ := eT
  obtain ⟨rfl, rfl, rfl, rfl, rfl, rfl, rfl, rfl, rfl, rfl, rfl, rfl, rfl, rfl, rfl, rfl, rfl, rfl, rfl, rfl, rfl, rfl, rfl, rfl, rfl, rfl, rfl⟩ := eM
  exact ⟨⟨⟨k1, k2, k3, k4, rfl, fun h => absurd h h3⟩, ⟨rfl, rfl, rfl, rfl⟩, ⟨rfl, rfl, rfl, rfl, k5, k6⟩, fun i hi => mdR_Q (hmm i hi)⟩, rfl, k0⟩
theorem an_stepb {x r y0 : Int32} (h : x < 1 ∨ 2000 < x) (eM : (r, y0) = s_M_stepb x) : y0 = 2 := by
  unfold s_M_stepb at eM
  by_cases h1 : x < 1
  · rw [if_pos h1] at eM; exact (Prod.mk.inj eM).2
  · rw [if_neg h1] at eM
    have h2 : ¬ x ≤ 2000 := Int32.not_le.mpr (h.resolve_left h1)
    rw [if_neg h2] at eM
    exact (Prod.mk.inj eM).2
theorem an_step0 {r y0 : Int32} (eM : (r, y0) = s_M_step0) : y0 = 1 := (Prod.mk.inj eM).2
theorem lgz {x y : Int64} (h : x = y) : lg_cmp x y = 0 := by rw [h]; simp [lg_cmp]
/-! blank modules -/
theorem clr0 (g : Nat → Int32) : ∀ k, k < 8 → s_C_clearProcessor_D g k = 0 := by
  intro k hk
  unfold s_C_clearProcessor_D s_C_clearProcessor_D_cut0 s_C_clearProcessor_D_cut1 s_C_clearProcessor_D_cut2 s_C_clearProcessor_D_cut3 s_C_clearProcessor_D_cut4 s_C_clearProcessor_D_cut5 s_C_clearProcessor_D_cut6 s_C_clearProcessor_D_cut7 s_C_clearProcessor_D_cut8
  match k, hk with
  | 0, _ => rfl
  | 1, _ => rfl
  | 2, _ => rfl
  | 3, _ => rfl
  | 4, _ => rfl
  | 5, _ => rfl
  | 6, _ => rfl
  | 7, _ => rfl
  | k + 8, h => exact absurd h (by omega)
def bF8 (F : Nat → Int32) (x : Int32) : Nat → Int32 := flF (upc (upc (upc (upc (upc (upc (upc (upc F 1 0) 8 x) 9 (0 : Int32)) 10 (0 : Int32)) 11 (0 : Int32)) 12 (0 : Int32)) 13 (0 : Int32)) 14 (0 : Int32))
theorem blk2 {i : Nat} (hi : i < 3) {a9 a10 a13 a14 a15 a16 a17 : Nat → Int32} : ∀ n j (a8 : Nat → Int32), j + n = 8 → (∀ k, k < j → a8 (8 * i + k) = 0) → ∃ b8, s_M_blank_loop2 a9 a10 a13 a14 a15 a16 a17 (nI i) n j a8 = s_M_blank_loop28 a10 a13 a14 a15 a16 a17 (nI i) 32 0 b8 a9 ∧ (∀ k, k < 8 → b8 (8 * i + k) = 0) ∧ fr 8 i a8 b8 := by
  intro n
  induction n with
  | zero =>
    intro j a8 hj h
    exact ⟨a8, rfl, fun k hk => h k (by omega), fr_r _ _ _⟩
  | succ n ih =>
    intro j a8 hj h
    rw [s_M_blank_loop2, ad8 hi (by omega)]
    obtain ⟨b8, e, h1, h2⟩ := ih (j + 1) (upd a8 (8 * i + j) 0) (by omega) (fun k hk => by
      by_cases e : k = j
      · rw [e, pk_us]
      · rw [pk_un (by omega)]; exact h k (by omega))
    exact ⟨b8, e, h1, fr_t (fr_u _ _ (by omega) (by omega)) h2⟩
theorem blk28 {i : Nat} (hi : i < 3) {F a10 a13 a14 a15 a16 a17 : Nat → Int32} {x : Int32} : ∀ n j (g d a8 a9 : Nat → Int32), j + n = 32 → (∀ w, w < j → d w = a9 (32 * i + w) ∧ cd22 (d w)) → ∃ d' b9, s_D_makeBlank_loop F x n j g d = (bF8 F x, g, d') ∧ s_M_blank_loop28 a10 a13 a14 a15 a16 a17 (nI i) n j a8 a9 = (a8, b9, upd a10 i 0, upd a13 i 0, upd a14 i 0, upd a15 i 0, upd a16 i 0, upd a17 i 0) ∧ rv1 i d' b9 ∧ fr 32 i a9 b9 := by
  intro n
  induction n with
  | zero =>
    intro j g d a8 a9 hj h
    rw [s_M_blank_loop28, cl3 hi]
    exact ⟨d, a9, rfl, rfl, fun w hw => h w (by omega), fr_r _ _ _⟩
  | succ n ih =>
    intro j g d a8 a9 hj h
    rw [s_D_makeBlank_loop, s_M_blank_loop28, ad32 hi (by omega)]
    obtain ⟨c, hc, ec⟩ := enc_nI (n := 0) (by decide)
    have eo : s_K_ofWord 0 = nI c := (ofw_enc (n := 0) (by decide)).trans ec
    have ee : s_M_encode 0 = nI c := ec
    unfold s_D_writeWord
    rw [eo, ee]
    simp only [bnd_eq]
    rw [nI_clamp (show j < 2 ^ 31 by omega)]
    obtain ⟨d', b9, e1, e2, h1, h2⟩ := ih (j + 1) g (upd d j (nI c)) a8 (upd a9 (32 * i + j) (nI c)) (by omega) (fun w hw => by
      by_cases e : w = j
      · rw [e, pk_us, pk_us]; exact ⟨rfl, c, hc, rfl⟩
      · rw [pk_un e, pk_un (by omega)]; exact h w (by omega))
    exact ⟨d', b9, e1, e2, h1, fr_t (fr_u _ _ (by omega) (by omega)) h2⟩
theorem blank_rel {i : Nat} (hi : i < 3) (F g v a8 a9 a10 a13 a14 a15 a16 a17 : Nat → Int32) (x : Int32) : ∃ g' v' b8 b9, s_D_makeBlank F g v x = (bF8 F x, g', v') ∧ s_M_blank a8 a9 a10 a13 a14 a15 a16 a17 (nI i) = (b8, b9, upd a10 i 0, upd a13 i 0, upd a14 i 0, upd a15 i 0, upd a16 i 0, upd a17 i 0) ∧ rg1 i g' b8 ∧ rv1 i v' b9 ∧ fr 8 i a8 b8 ∧ fr 32 i a9 b9 := by
  unfold s_D_makeBlank s_M_blank
  obtain ⟨b8, e8, h8, f8⟩ := blk2 hi (a9 := a9) (a10 := a10) (a13 := a13) (a14 := a14) (a15 := a15) (a16 := a16) (a17 := a17) 8 0 a8 rfl (fun k hk => absurd hk (Nat.not_lt_zero k))
  rw [e8, bnd_eq]
  obtain ⟨d', b9, e1, e2, h1, h2⟩ := blk28 hi (F := F) (a10 := a10) (a13 := a13) (a14 := a14) (a15 := a15) (a16 := a16) (a17 := a17) (x := x) 32 0 (s_C_clearProcessor_D g) v b8 a9 rfl (fun k hk => absurd hk (Nat.not_lt_zero k))
  exact ⟨_, d', b8, b9, e1, e2, fun k hk => by rw [clr0 g k hk, h8 k hk], h1, f8, h2⟩
/-- a module that was left alone -/
theorem mdQ_f {i j : Nat} {F g v a8 a9 a10 a11 a12 a13 a14 a15 b8 b9 b10 b11 b12 b13 b14 b15 : Nat → Int32} (h : mdQ j F g v a8 a9 a10 a11 a12 a13 a14 a15) (hj : ¬ j = i) (f8 : fr 8 i a8 b8) (f9 : fr 32 i a9 b9) (f10 : fr 1 i a10 b10) (f11 : fr 1 i a11 b11) (f12 : fr 1 i a12 b12) (f13 : fr 1 i a13 b13) (f14 : fr 1 i a14 b14) (f15 : fr 1 i a15 b15) : mdQ j F g v b8 b9 b10 b11 b12 b13 b14 b15 := by
  unfold mdQ at *
  rw [fr1_n f10 hj, fr1_n f11 hj, fr1_n f12 hj, fr1_n f13 hj, fr1_n f14 hj, fr1_n f15 hj]
  exact ⟨rg1_f h.1 f8 hj, rv1_f h.2.1 f9 hj, h.2.2⟩
theorem mdQ_b {i : Nat} {F g v a10 a11 a12 a13 a14 a15 b8 b9 : Nat → Int32} {x y : Int32} (hx : x = 1 → y = 0) (h1 : rg1 i g b8) (h2 : rv1 i v b9) : mdQ i (bF8 F x) g v b8 b9 (upd a10 i 0) (upd a11 i x) (upd a12 i y) (upd a13 i 0) (upd a14 i 0) (upd a15 i 0) :=
  ⟨h1, h2, pk_us.symm, pk_us.symm, fun h => (show (0 : Int32) = upd a12 i y i from by rw [pk_us, hx h]), pk_us.symm, pk_us.symm, pk_us.symm⟩
/-! start -/
theorem clE_fn (g : Nat → Int32) : ∀ n j, j + n = 8 → ∀ a, (∀ k, ¬ (j ≤ k ∧ k < 8) → a k = s_C_clearProcessor_E g k) → ∀ (uM b8 b9 b10 b11 b12 b13 b14 b15 b16 b17 w : Nat → Int32), s_M_startt_loop104 uM n j b8 b9 b10 b11 b12 b13 b14 b15 b16 b17 a w = s_M_startt_loop125 uM 32 0 b8 b9 b10 b11 b12 b13 b14 b15 b16 b17 (s_C_clearProcessor_E g) w := by
  have z : ∀ k, k < 8 → s_C_clearProcessor_E g k = 0 := by
    intro k hk
    unfold s_C_clearProcessor_E s_C_clearProcessor_E_cut0 s_C_clearProcessor_E_cut1 s_C_clearProcessor_E_cut2 s_C_clearProcessor_E_cut3 s_C_clearProcessor_E_cut4 s_C_clearProcessor_E_cut5 s_C_clearProcessor_E_cut6 s_C_clearProcessor_E_cut7 s_C_clearProcessor_E_cut8
    match k, hk with
    | 0, _ => rfl
    | 1, _ => rfl
    | 2, _ => rfl
    | 3, _ => rfl
    | 4, _ => rfl
    | 5, _ => rfl
    | 6, _ => rfl
    | 7, _ => rfl
    | k + 8, h => exact absurd h (by omega)
  intro n
  induction n with
  | zero =>
    intro j hj a h uM b8 b9 b10 b11 b12 b13 b14 b15 b16 b17 w
    have e : a = s_C_clearProcessor_E g := funext fun k => h k (by omega)
    rw [s_M_startt_loop104, e]
  | succ n ih =>
    intro j hj a h uM b8 b9 b10 b11 b12 b13 b14 b15 b16 b17 w
    rw [s_M_startt_loop104, nI_clamp (show j < 2 ^ 31 by omega)]
    refine ih (j + 1) (by omega) (upd a j 0) (fun k hk => ?_) uM b8 b9 b10 b11 b12 b13 b14 b15 b16 b17 w
    by_cases e : k = j
    · rw [e, pk_us, z j (by omega)]
    · rw [pk_un e]; exact h k (by omega)
theorem clE_out (g : Nat → Int32) : ∀ k, ¬ k < 8 → g k = s_C_clearProcessor_E g k := by
  intro k hk
  unfold s_C_clearProcessor_E s_C_clearProcessor_E_cut0 s_C_clearProcessor_E_cut1 s_C_clearProcessor_E_cut2 s_C_clearProcessor_E_cut3 s_C_clearProcessor_E_cut4 s_C_clearProcessor_E_cut5 s_C_clearProcessor_E_cut6 s_C_clearProcessor_E_cut7 s_C_clearProcessor_E_cut8
  have c : ∀ n, n < 8 → Int32.toNatClampNeg (nI n) = n := fun n hn => nI_clamp (by omega)
  have c0 : Int32.toNatClampNeg 0 = 0 := c 0 (by decide)
  have c1 : Int32.toNatClampNeg 1 = 1 := c 1 (by decide)
  have c2 : Int32.toNatClampNeg 2 = 2 := c 2 (by decide)
  have c3 : Int32.toNatClampNeg 3 = 3 := c 3 (by decide)
  have c4 : Int32.toNatClampNeg 4 = 4 := c 4 (by decide)
  have c5 : Int32.toNatClampNeg 5 = 5 := c 5 (by decide)
  have c6 : Int32.toNatClampNeg 6 = 6 := c 6 (by decide)
  have c7 : Int32.toNatClampNeg 7 = 7 := c 7 (by decide)
  rw [c0, c1, c2, c3, c4, c5, c6, c7, pk_un (by omega), pk_un (by omega), pk_un (by omega), pk_un (by omega), pk_un (by omega), pk_un (by omega), pk_un (by omega), pk_un (by omega)]
theorem mk125 (F uM b8 b9 b10 b11 b12 b13 b14 b15 b16 b17 g : Nat → Int32) : ∀ n j (d : Nat → Int32), ∃ d', s_E_makeBlank_loop F n j g d = (upc (upc F 1 0) 9 (0 : Int32), g, d') ∧ s_M_startt_loop125 uM n j b8 b9 b10 b11 b12 b13 b14 b15 b16 b17 g d = (1, b8, b9, b10, b11, b12, b13, b14, b15, b16, b17, g, d', upc (upc (upc (upc (upc uM 0 (0 : Int32)) 3 (1 : Int32)) 4 (0 : Int32)) 5 (0 : Int32)) 7 (0 : Int32), 0, 0, 0, 0, 0, 0, 0) := by
  intro n
  induction n with
  | zero => intro j d; exact ⟨d, rfl, rfl⟩
  | succ n ih =>
    intro j d
    rw [s_E_makeBlank_loop, s_M_startt_loop125]
    exact ih (j + 1) _
/-! the calls, one after another -/
theorem rl_startf {uT wN kp Z eg ew pe uM a8 a9 a10 a11 a12 a13 a14 a15 a28 a30 a31 a32 a36 : Nat → Int32} {F g v : Nat → Nat → Int32} {kN ko ke sn sm cm us wt oc ou ow : Nat} {r r' : Int32} {cn : Nat} {f : Nat → Int32} {uT2 Z2 eg2 ew2 : Nat → Int32} {F2 g2 v2 : Nat → Nat → Int32} {kN2 ko2 ke2 sn2 : Nat} {y0 : Int32} (hR : relA uT F g v kN wN ko kp Z eg ew ke pe sn uM sm cm us wt oc ou ow a8 a9 a10 a11 a12 a13 a14 a15 a28 a30 a31 a32 a36) (hcr : crB cn f = false) (eT : (r, uT2, F2, g2, v2, kN2, ko2, Z2, eg2, ew2, ke2, sn2) = s_T_start uT F g v cn f kN ko Z eg ew ke sn) (eM : (r', y0) = s_M_startf uM) : relA uT2 F2 g2 v2 kN2 wN ko2 kp Z2 eg2 ew2 ke2 pe sn2 (upc uM 0 y0) sm cm us wt oc ou ow a8 a9 a10 a11 a12 a13 a14 a15 a28 a30 a31 a32 a36 := by
  unfold s_T_start at eT
  rw [hcr, if_pos (show bI false = 0 from rfl)] at eT
  simp only [Prod.mk.injEq] at eT
  obtain ⟨rfl, rfl, rfl, rfl, rfl, rfl, rfl, rfl, rfl, rfl, rfl, rfl⟩ := eT
  exact hR
theorem rl_startt {a16 a17 : Nat → Int32} {uT wN kp Z eg ew pe uM a8 a9 a10 a11 a12 a13 a14 a15 a28 a30 a31 a32 a36 : Nat → Int32} {F g v : Nat → Nat → Int32} {kN ko ke sn sm cm us wt oc ou ow : Nat} {r r' : Int32} {cn : Nat} {f : Nat → Int32} {uT2 Z2 eg2 ew2 uM2 b8 b9 b10 b11 b12 b13 b14 b15 b16 b17 b31 b32 : Nat → Int32} {F2 g2 v2 : Nat → Nat → Int32} {kN2 ko2 ke2 sn2 sm2 cm2 us2 wt2 oc2 ou2 ow2 : Nat} (hR : relA uT F g v kN wN ko kp Z eg ew ke pe sn uM sm cm us wt oc ou ow a8 a9 a10 a11 a12 a13 a14 a15 a28 a30 a31 a32 a36) (hcr : crB cn f = true) (eT : (r, uT2, F2, g2, v2, kN2, ko2, Z2, eg2, ew2, ke2, sn2) = s_T_start uT F g v cn f kN ko Z eg ew ke sn) (eM : (r', b8, b9, b10, b11, b12, b13, b14, b15, b16, b17, b31, b32, uM2, sm2, cm2, us2, wt2, oc2, ou2, ow2) = s_M_startt uM a8 a9 a10 a11 a12 a13 a14 a15 a16 a17 a31 a32) : relA uT2 F2 g2 v2 kN2 wN ko2 kp Z2 eg2 ew2 ke2 pe sn2 uM2 sm2 cm2 us2 wt2 oc2 ou2 ow2 b8 b9 b10 b11 b12 b13 b14 b15 a28 a30 b31 b32 a36 := by
  obtain ⟨_, ⟨_, q1, _, q2⟩, ⟨_, q3, rfl, rfl, _, _⟩, _⟩ := hR
  obtain ⟨g0, v0, c8, c9, eT0, eM0, rg0, rv0, f08, f09⟩ := blank_rel (show 0 < 3 by decide) (F 0) (g 0) (v 0) a8 a9 a10 a13 a14 a15 a16 a17 0
  obtain ⟨g1, v1, d8, d9, eT1, eM1, rg1', rv1', f18, f19⟩ := blank_rel (show 1 < 3 by decide) (F 1) (g 1) (v 1) c8 c9 (upd a10 0 0) (upd a13 0 0) (upd a14 0 0) (upd a15 0 0) (upd a16 0 0) (upd a17 0 0) 0
  obtain ⟨g2', v2', e8, e9, eT2, eM2, rg2, rv2, f28, f29⟩ := blank_rel (show 2 < 3 by decide) (F 2) (g 2) (v 2) d8 d9 (upd (upd a10 0 0) 1 0) (upd (upd a13 0 0) 1 0) (upd (upd a14 0 0) 1 0) (upd (upd a15 0 0) 1 0) (upd (upd a16 0 0) 1 0) (upd (upd a17 0 0) 1 0) 0
  have eB : s_M_startt uM a8 a9 a10 a11 a12 a13 a14 a15 a16 a17 eg ew = s_M_startt_cut71_3 uM e8 e9 (upd (upd (upd a10 0 0) 1 0) 2 0) (upd (upd (upd a11 0 0) 1 0) 2 0) (upd (upd (upd a12 0 32) 1 32) 2 32) (upd (upd (upd a13 0 0) 1 0) 2 0) (upd (upd (upd a14 0 0) 1 0) 2 0) (upd (upd (upd a15 0 0) 1 0) 2 0) (upd (upd (upd a16 0 0) 1 0) 2 0) (upd (upd (upd a17 0 0) 1 0) 2 0) eg ew := by
    rw [show nI 0 = 0 from rfl] at eM0
    rw [show nI 1 = 1 from rfl] at eM1
    rw [show nI 2 = 2 from rfl] at eM2
    unfold s_M_startt s_M_startt_cut71_0
    rw [eM0]
    simp only [bnd_eq]
    unfold s_M_startt_cut71_1
    rw [eM1]
    simp only [bnd_eq]
    unfold s_M_startt_cut71_2
    rw [eM2]
    simp only [bnd_eq]
  have eL := clE_fn eg 8 0 rfl eg (fun k hk => clE_out eg k (by omega)) uM e8 e9 (upd (upd (upd a10 0 0) 1 0) 2 0) (upd (upd (upd a11 0 0) 1 0) 2 0) (upd (upd (upd a12 0 32) 1 32) 2 32) (upd (upd (upd a13 0 0) 1 0) 2 0) (upd (upd (upd a14 0 0) 1 0) 2 0) (upd (upd (upd a15 0 0) 1 0) 2 0) (upd (upd (upd a16 0 0) 1 0) 2 0) (upd (upd (upd a17 0 0) 1 0) 2 0) ew
  obtain ⟨d', m1, m2⟩ := mk125 Z uM e8 e9 (upd (upd (upd a10 0 0) 1 0) 2 0) (upd (upd (upd a11 0 0) 1 0) 2 0) (upd (upd (upd a12 0 32) 1 32) 2 32) (upd (upd (upd a13 0 0) 1 0) 2 0) (upd (upd (upd a14 0 0) 1 0) 2 0) (upd (upd (upd a15 0 0) 1 0) 2 0) (upd (upd (upd a16 0 0) 1 0) 2 0) (upd (upd (upd a17 0 0) 1 0) 2 0) (s_C_clearProcessor_E eg) 32 0 ew
  have eS : s_E_makeBlank Z eg ew = (upc (upc Z 1 0) 9 (0 : Int32), s_C_clearProcessor_E eg, d') := by
    unfold s_E_makeBlank
    rw [bnd_eq]
    exact m1
  rw [eB] at eM
  unfold s_M_startt_cut71_3 at eM
  rw [eL, m2] at eM
  simp only [Prod.mk.injEq] at eM
  obtain ⟨rfl, rfl, rfl, rfl, rfl, rfl, rfl, rfl, rfl, rfl, rfl, rfl, rfl, rfl, rfl, rfl, rfl, rfl, rfl, rfl, rfl⟩ := eM
  unfold s_T_start at eT
  rw [hcr, if_neg (show ¬ bI true = 0 by decide), eT0] at eT
  simp only [bnd_eq] at eT
  unfold s_T_start_cut14_1 at eT
  rw [show tri (bF8 (F 0) 0) (F 1) (F 2) 1 = F 1 from rfl, show tri g0 (g 1) (g 2) 1 = g 1 from rfl, show tri v0 (v 1) (v 2) 1 = v 1 from rfl, eT1] at eT
  simp only [bnd_eq] at eT
  unfold s_T_start_cut14_2 at eT
  rw [show tri (tri (bF8 (F 0) 0) (F 1) (F 2) 0) (bF8 (F 1) 0) (tri (bF8 (F 0) 0) (F 1) (F 2) 2) 2 = F 2 from rfl, show tri (tri g0 (g 1) (g 2) 0) g1 (tri g0 (g 1) (g 2) 2) 2 = g 2 from rfl, show tri (tri v0 (v 1) (v 2) 0) v1 (tri v0 (v 1) (v 2) 2) 2 = v 2 from rfl, eT2] at eT
  simp only [bnd_eq] at eT
  unfold s_T_start_cut14_3 at eT
  rw [eS] at eT
  simp only [bnd_eq, Prod.mk.injEq] at eT
  obtain ⟨rfl, rfl, rfl, rfl, rfl, rfl, rfl, rfl, rfl, rfl, rfl, rfl⟩ := eT
  refine ⟨⟨rfl, rfl, rfl, rfl, rfl, fun _ => ⟨rfl, rfl⟩⟩, ⟨rfl, q1, rfl, q2⟩, ⟨rfl, q3, rfl, rfl, rfl, rfl⟩, all3 ?_ ?_ ?_⟩
  · exact mdQ_f (mdQ_f (mdQ_b (x := 0) (y := 32) (fun h => absurd h (by decide)) rg0 rv0) (show ¬ 0 = 1 by decide) f18 f19 (fr_1 1 _ _) (fr_1 1 _ _) (fr_1 1 _ _) (fr_1 1 _ _) (fr_1 1 _ _) (fr_1 1 _ _)) (show ¬ 0 = 2 by decide) f28 f29 (fr_1 2 _ _) (fr_1 2 _ _) (fr_1 2 _ _) (fr_1 2 _ _) (fr_1 2 _ _) (fr_1 2 _ _)
  · exact mdQ_f (mdQ_b (x := 0) (y := 32) (fun h => absurd h (by decide)) rg1' rv1') (show ¬ 1 = 2 by decide) f28 f29 (fr_1 2 _ _) (fr_1 2 _ _) (fr_1 2 _ _) (fr_1 2 _ _) (fr_1 2 _ _) (fr_1 2 _ _)
  · exact mdQ_b (x := 0) (y := 32) (fun h => absurd h (by decide)) rg2 rv2
theorem rl_input {uT wN kp Z eg ew pe uM a8 a9 a10 a11 a12 a13 a14 a15 a28 a30 a31 a32 a36 : Nat → Int32} {F g v : Nat → Nat → Int32} {kN ko ke sn sm cm us wt oc ou ow : Nat} {r r' x y0 : Int32} {kN2 cm2 : Nat} {wN2 b28 : Nat → Int32} (hR : relA uT F g v kN wN ko kp Z eg ew ke pe sn uM sm cm us wt oc ou ow a8 a9 a10 a11 a12 a13 a14 a15 a28 a30 a31 a32 a36) (hrel : uT 5 = uM 3) (hkN : kN ≤ 64) (eT : (r, kN2, wN2) = s_T_input uT kN wN x) (eM : (r', cm2, b28, y0) = s_M_input uM cm a28 x) : relA uT F g v kN2 wN2 ko kp Z eg ew ke pe sn (upc uM 0 y0) sm cm2 us wt oc ou ow a8 a9 a10 a11 a12 a13 a14 a15 b28 a30 a31 a32 a36 ∧ r = r' := by
  obtain ⟨h1, ⟨rfl, rfl, q3, q4⟩, h3, h4⟩ := hR
  unfold s_T_input s_N_add at eT
  unfold s_M_input at eM
  rw [hrel] at eT
  by_cases z : uM 3 = 0
  · rw [if_pos z] at eT eM
    simp only [Prod.mk.injEq] at eT eM
    obtain ⟨rfl, rfl, rfl⟩ := eT
    obtain ⟨rfl, rfl, rfl, rfl⟩ := eM
    exact ⟨⟨h1, ⟨rfl, rfl, q3, q4⟩, h3, h4⟩, rfl⟩
  · rw [if_neg z] at eT eM
    simp only [bnd_eq] at eT
    by_cases k : kN < 64
    · have k1 : nI kN < 64 := (nI_ltI (a := kN) (b := 64) (by omega) (by omega)).mpr k
      have k2 : ¬ nI kN = 64 := fun h => by
        have := nI_inj (a := kN) (b := 64) (by omega) (by omega) h
        omega
      rw [if_pos k1, decide_eq_true k] at eT
      rw [if_neg k2] at eM
      simp only [Prod.mk.injEq] at eM
      have eT' : (r, kN2, wN2) = (1, kN + 1, upd wN (Int32.toNatClampNeg (nI kN)) (x &&& 65535)) := eT
      simp only [Prod.mk.injEq] at eT'
      obtain ⟨rfl, rfl, rfl⟩ := eT'
      obtain ⟨rfl, rfl, rfl, rfl⟩ := eM
      exact ⟨⟨h1, ⟨rfl, rfl, q3, q4⟩, h3, h4⟩, rfl⟩
    · have e64 : kN = 64 := by omega
      subst e64
      rw [decide_eq_false k] at eT
      have eT' : (r, kN2, wN2) = (0, 64, wN) := eT
      have eM' : (r', cm2, b28, y0) = (0, 64, wN, 0) := eM
      simp only [Prod.mk.injEq] at eT' eM'
      obtain ⟨rfl, rfl, rfl⟩ := eT'
      obtain ⟨rfl, rfl, rfl, rfl⟩ := eM'
      exact ⟨⟨h1, ⟨rfl, rfl, q3, q4⟩, h3, h4⟩, rfl⟩
theorem mdQ_11 {i : Nat} {F g v a8 a9 a10 a11 a12 a13 a14 a15 : Nat → Int32} (z : Int32) (h : mdQ i F g v a8 a9 a10 a11 a12 a13 a14 a15) : mdQ i (upc F 11 z) g v a8 a9 a10 a11 a12 a13 (upd a14 i z) a15 := ⟨h.1, h.2.1, h.2.2.1, h.2.2.2.1, h.2.2.2.2.1, h.2.2.2.2.2.1, pk_us.symm, h.2.2.2.2.2.2.2⟩
theorem mdQ_12 {i : Nat} {F g v a8 a9 a10 a11 a12 a13 a14 a15 : Nat → Int32} (z : Int32) (h : mdQ i F g v a8 a9 a10 a11 a12 a13 a14 a15) : mdQ i (upc F 12 z) g v a8 a9 a10 a11 a12 a13 a14 (upd a15 i z) := ⟨h.1, h.2.1, h.2.2.1, h.2.2.2.1, h.2.2.2.2.1, h.2.2.2.2.2.1, h.2.2.2.2.2.2.1, pk_us.symm⟩
theorem mdQ_1 {i : Nat} {F g v a8 a9 a10 a11 a12 a13 a14 a15 : Nat → Int32} (z : Int32) (h : mdQ i F g v a8 a9 a10 a11 a12 a13 a14 a15) : mdQ i (upc F 1 z) g v a8 a9 (upd a10 i z) a11 a12 a13 a14 a15 := ⟨h.1, h.2.1, pk_us.symm, h.2.2.2⟩
theorem hm_M {uT uM : Nat → Int32} (hrel : uT 5 = uM 3) (x : Int32) : hmB uT x = (!decide (uM 3 = 0) && in3 x) := by unfold hmB; rw [hrel]
theorem rl_freeze {uT wN kp Z eg ew pe uM a8 a9 a10 a11 a12 a13 a14 a15 a28 a30 a31 a32 a36 : Nat → Int32} {F g v : Nat → Nat → Int32} {kN ko ke sn sm cm us wt oc ou ow : Nat} {r r' x y0 zb : Int32} {F2 : Nat → Nat → Int32} {b14 : Nat → Int32} (hR : relA uT F g v kN wN ko kp Z eg ew ke pe sn uM sm cm us wt oc ou ow a8 a9 a10 a11 a12 a13 a14 a15 a28 a30 a31 a32 a36) (hrel : uT 5 = uM 3) (hz : vp_nar .boolean zb = zb) (eT : (r, F2) = s_T_freeze uT F x zb) (eM : (r', b14, y0) = s_M_freeze uM a14 x zb) : relA uT F2 g v kN wN ko kp Z eg ew ke pe sn (upc uM 0 y0) sm cm us wt oc ou ow a8 a9 a10 a11 a12 a13 b14 a15 a28 a30 a31 a32 a36 ∧ r = r' := by
  unfold s_T_freeze at eT
  unfold s_M_freeze at eM
  rw [hm_M hrel] at eT
  rw [hz] at eM
  by_cases z : uM 3 = 0
  · rw [z] at eT
    rw [if_pos z] at eM
    have eT' : (r, F2) = (0, F) := eT
    simp only [Prod.mk.injEq] at eT' eM
    obtain ⟨rfl, rfl⟩ := eT'
    obtain ⟨rfl, rfl, rfl⟩ := eM
    exact ⟨hR, rfl⟩
  · rw [if_neg z] at eM
    rw [decide_eq_false z, show (!false && in3 x) = in3 x from rfl] at eT
    cases hi : in3 x
    · rw [hi, if_pos (show bI false = 0 from rfl)] at eT eM
      simp only [Prod.mk.injEq] at eT eM
      obtain ⟨rfl, rfl⟩ := eT
      obtain ⟨rfl, rfl, rfl⟩ := eM
      exact ⟨hR, rfl⟩
    · rw [hi, if_neg (show ¬ bI true = 0 by decide)] at eT eM
      rcases in3_c hi with rfl | rfl | rfl
      · simp only [if_true, Prod.mk.injEq] at eT eM
        obtain ⟨rfl, rfl⟩ := eT
        obtain ⟨rfl, rfl, rfl⟩ := eM
        rw [show Int32.toNatClampNeg 0 = 0 from rfl]
        exact ⟨⟨hR.1, hR.2.1, hR.2.2.1, all3 (mdQ_11 _ (hR.2.2.2 0 (by decide))) (mdQ_f (hR.2.2.2 1 (by decide)) (show ¬ 1 = 0 by decide) (fr_r _ _ _) (fr_r _ _ _) (fr_r _ _ _) (fr_r _ _ _) (fr_r _ _ _) (fr_r _ _ _) (fr_1 0 _ _) (fr_r _ _ _)) (mdQ_f (hR.2.2.2 2 (by decide)) (show ¬ 2 = 0 by decide) (fr_r _ _ _) (fr_r _ _ _) (fr_r _ _ _) (fr_r _ _ _) (fr_r _ _ _) (fr_r _ _ _) (fr_1 0 _ _) (fr_r _ _ _))⟩, rfl⟩
      · simp only [q10, if_true, if_false, Prod.mk.injEq] at eT eM
        obtain ⟨rfl, rfl⟩ := eT
        obtain ⟨rfl, rfl, rfl⟩ := eM
        rw [show Int32.toNatClampNeg 1 = 1 from rfl]
        exact ⟨⟨hR.1, hR.2.1, hR.2.2.1, all3 (mdQ_f (hR.2.2.2 0 (by decide)) (show ¬ 0 = 1 by decide) (fr_r _ _ _) (fr_r _ _ _) (fr_r _ _ _) (fr_r _ _ _) (fr_r _ _ _) (fr_r _ _ _) (fr_1 1 _ _) (fr_r _ _ _)) (mdQ_11 _ (hR.2.2.2 1 (by decide))) (mdQ_f (hR.2.2.2 2 (by decide)) (show ¬ 2 = 1 by decide) (fr_r _ _ _) (fr_r _ _ _) (fr_r _ _ _) (fr_r _ _ _) (fr_r _ _ _) (fr_r _ _ _) (fr_1 1 _ _) (fr_r _ _ _))⟩, rfl⟩
      · simp only [q20, q21, if_false, Prod.mk.injEq] at eT eM
        obtain ⟨rfl, rfl⟩ := eT
        obtain ⟨rfl, rfl, rfl⟩ := eM
        rw [show Int32.toNatClampNeg 2 = 2 from rfl]
        exact ⟨⟨hR.1, hR.2.1, hR.2.2.1, all3 (mdQ_f (hR.2.2.2 0 (by decide)) (show ¬ 0 = 2 by decide) (fr_r _ _ _) (fr_r _ _ _) (fr_r _ _ _) (fr_r _ _ _) (fr_r _ _ _) (fr_r _ _ _) (fr_1 2 _ _) (fr_r _ _ _)) (mdQ_f (hR.2.2.2 1 (by decide)) (show ¬ 1 = 2 by decide) (fr_r _ _ _) (fr_r _ _ _) (fr_r _ _ _) (fr_r _ _ _) (fr_r _ _ _) (fr_r _ _ _) (fr_1 2 _ _) (fr_r _ _ _)) (mdQ_11 _ (hR.2.2.2 2 (by decide)))⟩, rfl⟩
theorem rl_skip {uT wN kp Z eg ew pe uM a8 a9 a10 a11 a12 a13 a14 a15 a28 a30 a31 a32 a36 : Nat → Int32} {F g v : Nat → Nat → Int32} {kN ko ke sn sm cm us wt oc ou ow : Nat} {r r' x y0 : Int32} {F2 : Nat → Nat → Int32} {b15 : Nat → Int32} (hR : relA uT F g v kN wN ko kp Z eg ew ke pe sn uM sm cm us wt oc ou ow a8 a9 a10 a11 a12 a13 a14 a15 a28 a30 a31 a32 a36) (hrel : uT 5 = uM 3) (eT : (r, F2) = s_T_skip uT F x) (eM : (r', b15, y0) = s_M_skip uM a15 x) : relA uT F2 g v kN wN ko kp Z eg ew ke pe sn (upc uM 0 y0) sm cm us wt oc ou ow a8 a9 a10 a11 a12 a13 a14 b15 a28 a30 a31 a32 a36 ∧ r = r' := by
  unfold s_T_skip at eT
  unfold s_M_skip at eM
  rw [hm_M hrel] at eT
  by_cases z : uM 3 = 0
  · rw [z] at eT
    rw [if_pos z] at eM
    have eT' : (r, F2) = (0, F) := eT
    simp only [Prod.mk.injEq] at eT' eM
    obtain ⟨rfl, rfl⟩ := eT'
    obtain ⟨rfl, rfl, rfl⟩ := eM
    exact ⟨hR, rfl⟩
  · rw [if_neg z] at eM
    rw [decide_eq_false z, show (!false && in3 x) = in3 x from rfl] at eT
    cases hi : in3 x
    · rw [hi, if_pos (show bI false = 0 from rfl)] at eT eM
      simp only [Prod.mk.injEq] at eT eM
      obtain ⟨rfl, rfl⟩ := eT
      obtain ⟨rfl, rfl, rfl⟩ := eM
      exact ⟨hR, rfl⟩
    · rw [hi, if_neg (show ¬ bI true = 0 by decide)] at eT eM
      rcases in3_c hi with rfl | rfl | rfl
      · simp only [if_true, Prod.mk.injEq] at eT eM
        obtain ⟨rfl, rfl⟩ := eT
        obtain ⟨rfl, rfl, rfl⟩ := eM
        rw [show Int32.toNatClampNeg 0 = 0 from rfl]
        exact ⟨⟨hR.1, hR.2.1, hR.2.2.1, all3 (mdQ_12 _ (hR.2.2.2 0 (by decide))) (mdQ_f (hR.2.2.2 1 (by decide)) (show ¬ 1 = 0 by decide) (fr_r _ _ _) (fr_r _ _ _) (fr_r _ _ _) (fr_r _ _ _) (fr_r _ _ _) (fr_r _ _ _) (fr_r _ _ _) (fr_1 0 _ _)) (mdQ_f (hR.2.2.2 2 (by decide)) (show ¬ 2 = 0 by decide) (fr_r _ _ _) (fr_r _ _ _) (fr_r _ _ _) (fr_r _ _ _) (fr_r _ _ _) (fr_r _ _ _) (fr_r _ _ _) (fr_1 0 _ _))⟩, rfl⟩
      · simp only [q10, if_true, if_false, Prod.mk.injEq] at eT eM
        obtain ⟨rfl, rfl⟩ := eT
        obtain ⟨rfl, rfl, rfl⟩ := eM
        rw [show Int32.toNatClampNeg 1 = 1 from rfl]
        exact ⟨⟨hR.1, hR.2.1, hR.2.2.1, all3 (mdQ_f (hR.2.2.2 0 (by decide)) (show ¬ 0 = 1 by decide) (fr_r _ _ _) (fr_r _ _ _) (fr_r _ _ _) (fr_r _ _ _) (fr_r _ _ _) (fr_r _ _ _) (fr_r _ _ _) (fr_1 1 _ _)) (mdQ_12 _ (hR.2.2.2 1 (by decide))) (mdQ_f (hR.2.2.2 2 (by decide)) (show ¬ 2 = 1 by decide) (fr_r _ _ _) (fr_r _ _ _) (fr_r _ _ _) (fr_r _ _ _) (fr_r _ _ _) (fr_r _ _ _) (fr_r _ _ _) (fr_1 1 _ _))⟩, rfl⟩
      · simp only [q20, q21, if_false, Prod.mk.injEq] at eT eM
        obtain ⟨rfl, rfl⟩ := eT
        obtain ⟨rfl, rfl, rfl⟩ := eM
        rw [show Int32.toNatClampNeg 2 = 2 from rfl]
        exact ⟨⟨hR.1, hR.2.1, hR.2.2.1, all3 (mdQ_f (hR.2.2.2 0 (by decide)) (show ¬ 0 = 2 by decide) (fr_r _ _ _) (fr_r _ _ _) (fr_r _ _ _) (fr_r _ _ _) (fr_r _ _ _) (fr_r _ _ _) (fr_r _ _ _) (fr_1 2 _ _)) (mdQ_f (hR.2.2.2 1 (by decide)) (show ¬ 1 = 2 by decide) (fr_r _ _ _) (fr_r _ _ _) (fr_r _ _ _) (fr_r _ _ _) (fr_r _ _ _) (fr_r _ _ _) (fr_r _ _ _) (fr_1 2 _ _)) (mdQ_12 _ (hR.2.2.2 2 (by decide)))⟩, rfl⟩
theorem rl_allow {uT wN kp Z eg ew pe uM a8 a9 a10 a11 a12 a13 a14 a15 a28 a30 a31 a32 a36 : Nat → Int32} {F g v : Nat → Nat → Int32} {kN ko ke sn sm cm us wt oc ou ow : Nat} {zb : Int32} {uT2 uM2 : Nat → Int32} (hR : relA uT F g v kN wN ko kp Z eg ew ke pe sn uM sm cm us wt oc ou ow a8 a9 a10 a11 a12 a13 a14 a15 a28 a30 a31 a32 a36) (eT : uT2 = s_T_allow uT zb) (eM : uM2 = s_M_allow uM zb) : relA uT2 F g v kN wN ko kp Z eg ew ke pe sn uM2 sm cm us wt oc ou ow a8 a9 a10 a11 a12 a13 a14 a15 a28 a30 a31 a32 a36 := by
  subst eT eM
  exact ⟨⟨hR.1.1, rfl, hR.1.2.2⟩, hR.2⟩
theorem rl_flip {uT wN kp Z eg ew pe uM a8 a9 a10 a11 a12 a13 a14 a15 a28 a30 a31 a32 a36 : Nat → Int32} {F g v : Nat → Nat → Int32} {kN ko ke sn sm cm us wt oc ou ow : Nat} {cn : Nat} {x y z u y0 : Int32} {F2 g2 v2 : Nat → Nat → Int32} {b8 b9 b10 : Nat → Int32} (hR : relA uT F g v kN wN ko kp Z eg ew ke pe sn uM sm cm us wt oc ou ow a8 a9 a10 a11 a12 a13 a14 a15 a28 a30 a31 a32 a36) (hrel : uT 5 = uM 3) (hst : ¬ uM 3 = 0 → 0 < cn) (hcn : cn ≤ 64) (hfl : (hmB uT x && hbB y z u) = true) (eT : (F2, g2, v2) = s_L_flip_r F g v cn x y z u) (eM : (b8, b9, b10, y0) = s_M_flip uM cn a8 a9 a10 x y z u) : relA uT F2 g2 v2 kN wN ko kp Z eg ew ke pe sn (upc uM 0 y0) sm cm us wt oc ou ow b8 b9 b10 a11 a12 a13 a14 a15 a28 a30 a31 a32 a36 := by
  rw [hm_M hrel] at hfl
  simp only [Bool.and_eq_true] at hfl
  obtain ⟨⟨h3, hi⟩, hb⟩ := hfl
  have h3 : ¬ uM 3 = 0 := by simpa using h3
  unfold s_L_flip_r s_T_flip at eT
  unfold s_M_flip at eM
  rw [if_neg h3, hi, if_neg (show ¬ bI true = 0 by decide)] at eM
  simp only [bnd_eq] at eT
  have ng : ∀ (p : Nat), p < 2 ^ 31 → ¬ nI p < 0 := fun p hp h => by
    have := (nI_ltI (a := p) (b := 0) hp (by omega)).mp h
    omega
  rcases hb_c hb with ⟨rfl, hz, hu⟩ | ⟨rfl, hz, hu⟩ | ⟨rfl, rfl, hu⟩
  · obtain ⟨p, hp, rfl⟩ := vp_in_of hz (by decide)
    obtain ⟨q, hq, rfl⟩ := vp_in_of hu (by decide)
    have c1 : ¬ (8 : Int32) ≤ nI p := fun h => by
      have := (nI_leI (a := 8) (b := p) (by omega) (by omega)).mp h
      omega
    have c2 : nI q < 16 := (nI_ltI (a := q) (b := 16) (by omega) (by omega)).mpr hq
    rw [if_neg (ng q (by omega)), if_neg (ng p (by omega))] at eM
    simp only [q01, show ((0 : Int32) = 2) = False from eq_false (by decide), if_true, if_false, if_neg c1, if_pos c2] at eM
    rcases in3_c hi with rfl | rfl | rfl
    · simp only [q10, q20, q21, if_true, if_false, Prod.mk.injEq] at eT eM
      rw [show Int32.toNatClampNeg (((8 : Int32) * 0) + nI p) = 8 * 0 + p from ad8 (i := 0) (by decide) hp] at eM
      rw [clr hp] at eT
      obtain ⟨rfl, rfl, rfl⟩ := eT
      obtain ⟨rfl, rfl, rfl, rfl⟩ := eM
      rw [rg1_reg (hR.2.2.2 0 (by decide)).1 hp]
      refine ⟨hR.1, hR.2.1, hR.2.2.1, all3 ⟨rg1_u _ (hR.2.2.2 0 (by decide)).1 hp, (hR.2.2.2 0 (by decide)).2⟩ (mdQ_f (hR.2.2.2 1 (by decide)) (show ¬ 1 = 0 by decide) (fr_u _ _ (by omega) (by omega)) (fr_r _ _ _) (fr_r _ _ _) (fr_r _ _ _) (fr_r _ _ _) (fr_r _ _ _) (fr_r _ _ _) (fr_r _ _ _)) (mdQ_f (hR.2.2.2 2 (by decide)) (show ¬ 2 = 0 by decide) (fr_u _ _ (by omega) (by omega)) (fr_r _ _ _) (fr_r _ _ _) (fr_r _ _ _) (fr_r _ _ _) (fr_r _ _ _) (fr_r _ _ _) (fr_r _ _ _))⟩
    · simp only [q10, q20, q21, if_true, if_false, Prod.mk.injEq] at eT eM
      rw [show Int32.toNatClampNeg (((8 : Int32) * 1) + nI p) = 8 * 1 + p from ad8 (i := 1) (by decide) hp] at eM
      rw [clr hp] at eT
      obtain ⟨rfl, rfl, rfl⟩ := eT
      obtain ⟨rfl, rfl, rfl, rfl⟩ := eM
      rw [rg1_reg (hR.2.2.2 1 (by decide)).1 hp]
      refine ⟨hR.1, hR.2.1, hR.2.2.1, all3 (mdQ_f (hR.2.2.2 0 (by decide)) (show ¬ 0 = 1 by decide) (fr_u _ _ (by omega) (by omega)) (fr_r _ _ _) (fr_r _ _ _) (fr_r _ _ _) (fr_r _ _ _) (fr_r _ _ _) (fr_r _ _ _) (fr_r _ _ _)) ⟨rg1_u _ (hR.2.2.2 1 (by decide)).1 hp, (hR.2.2.2 1 (by decide)).2⟩ (mdQ_f (hR.2.2.2 2 (by decide)) (show ¬ 2 = 1 by decide) (fr_u _ _ (by omega) (by omega)) (fr_r _ _ _) (fr_r _ _ _) (fr_r _ _ _) (fr_r _ _ _) (fr_r _ _ _) (fr_r _ _ _) (fr_r _ _ _))⟩
    · simp only [q10, q20, q21, if_true, if_false, Prod.mk.injEq] at eT eM
      rw [show Int32.toNatClampNeg (((8 : Int32) * 2) + nI p) = 8 * 2 + p from ad8 (i := 2) (by decide) hp] at eM
      rw [clr hp] at eT
      obtain ⟨rfl, rfl, rfl⟩ := eT
      obtain ⟨rfl, rfl, rfl, rfl⟩ := eM
      rw [rg1_reg (hR.2.2.2 2 (by decide)).1 hp]
      refine ⟨hR.1, hR.2.1, hR.2.2.1, all3 (mdQ_f (hR.2.2.2 0 (by decide)) (show ¬ 0 = 2 by decide) (fr_u _ _ (by omega) (by omega)) (fr_r _ _ _) (fr_r _ _ _) (fr_r _ _ _) (fr_r _ _ _) (fr_r _ _ _) (fr_r _ _ _) (fr_r _ _ _)) (mdQ_f (hR.2.2.2 1 (by decide)) (show ¬ 1 = 2 by decide) (fr_u _ _ (by omega) (by omega)) (fr_r _ _ _) (fr_r _ _ _) (fr_r _ _ _) (fr_r _ _ _) (fr_r _ _ _) (fr_r _ _ _) (fr_r _ _ _)) ⟨rg1_u _ (hR.2.2.2 2 (by decide)).1 hp, (hR.2.2.2 2 (by decide)).2⟩⟩
  · obtain ⟨p, hp, rfl⟩ := vp_in_of hz (by decide)
    obtain ⟨q, hq, rfl⟩ := vp_in_of hu (by decide)
    have c1 : ¬ (32 : Int32) ≤ nI p := fun h => by
      have := (nI_leI (a := 32) (b := p) (by omega) (by omega)).mp h
      omega
    have c2 : nI q < 22 := (nI_ltI (a := q) (b := 22) (by omega) (by omega)).mpr hq
    rw [if_neg (ng q (by omega)), if_neg (ng p (by omega))] at eM
    simp only [q10, show ((1 : Int32) = 2) = False from eq_false (by decide), if_true, if_false, if_neg c1, if_pos c2] at eM
    rcases in3_c hi with rfl | rfl | rfl
    · simp only [q10, q20, q21, if_true, if_false, Prod.mk.injEq] at eT eM
      rw [show Int32.toNatClampNeg (((32 : Int32) * 0) + nI p) = 32 * 0 + p from ad32 (i := 0) (by decide) hp] at eM
      rw [nI_clamp (show p < 2 ^ 31 by omega)] at eT
      obtain ⟨rfl, rfl, rfl⟩ := eT
      obtain ⟨rfl, rfl, rfl, rfl⟩ := eM
      obtain ⟨e1, n, hn, e2⟩ := (hR.2.2.2 0 (by decide)).2.1 p hp
      obtain ⟨f1, f2⟩ := fix_nI hn hq
      have e3 : v 0 p ^^^ (1 : Int32) <<< (nI q &&& 31) = nI (n ^^^ 2 ^ q) := by rw [e2]; exact f1
      rw [← e1, e3]
      refine ⟨hR.1, hR.2.1, hR.2.2.1, all3 ⟨(hR.2.2.2 0 (by decide)).1, rv1_u (hR.2.2.2 0 (by decide)).2.1 hp ⟨_, f2, rfl⟩, (hR.2.2.2 0 (by decide)).2.2⟩ (mdQ_f (hR.2.2.2 1 (by decide)) (show ¬ 1 = 0 by decide) (fr_r _ _ _) (fr_u _ _ (by omega) (by omega)) (fr_r _ _ _) (fr_r _ _ _) (fr_r _ _ _) (fr_r _ _ _) (fr_r _ _ _) (fr_r _ _ _)) (mdQ_f (hR.2.2.2 2 (by decide)) (show ¬ 2 = 0 by decide) (fr_r _ _ _) (fr_u _ _ (by omega) (by omega)) (fr_r _ _ _) (fr_r _ _ _) (fr_r _ _ _) (fr_r _ _ _) (fr_r _ _ _) (fr_r _ _ _))⟩
    · simp only [q10, q20, q21, if_true, if_false, Prod.mk.injEq] at eT eM
      rw [show Int32.toNatClampNeg (((32 : Int32) * 1) + nI p) = 32 * 1 + p from ad32 (i := 1) (by decide) hp] at eM
      rw [nI_clamp (show p < 2 ^ 31 by omega)] at eT
      obtain ⟨rfl, rfl, rfl⟩ := eT
      obtain ⟨rfl, rfl, rfl, rfl⟩ := eM
      obtain ⟨e1, n, hn, e2⟩ := (hR.2.2.2 1 (by decide)).2.1 p hp
      obtain ⟨f1, f2⟩ := fix_nI hn hq
      have e3 : v 1 p ^^^ (1 : Int32) <<< (nI q &&& 31) = nI (n ^^^ 2 ^ q) := by rw [e2]; exact f1
      rw [← e1, e3]
      refine ⟨hR.1, hR.2.1, hR.2.2.1, all3 (mdQ_f (hR.2.2.2 0 (by decide)) (show ¬ 0 = 1 by decide) (fr_r _ _ _) (fr_u _ _ (by omega) (by omega)) (fr_r _ _ _) (fr_r _ _ _) (fr_r _ _ _) (fr_r _ _ _) (fr_r _ _ _) (fr_r _ _ _)) ⟨(hR.2.2.2 1 (by decide)).1, rv1_u (hR.2.2.2 1 (by decide)).2.1 hp ⟨_, f2, rfl⟩, (hR.2.2.2 1 (by decide)).2.2⟩ (mdQ_f (hR.2.2.2 2 (by decide)) (show ¬ 2 = 1 by decide) (fr_r _ _ _) (fr_u _ _ (by omega) (by omega)) (fr_r _ _ _) (fr_r _ _ _) (fr_r _ _ _) (fr_r _ _ _) (fr_r _ _ _) (fr_r _ _ _))⟩
    · simp only [q10, q20, q21, if_true, if_false, Prod.mk.injEq] at eT eM
      rw [show Int32.toNatClampNeg (((32 : Int32) * 2) + nI p) = 32 * 2 + p from ad32 (i := 2) (by decide) hp] at eM
      rw [nI_clamp (show p < 2 ^ 31 by omega)] at eT
      obtain ⟨rfl, rfl, rfl⟩ := eT
      obtain ⟨rfl, rfl, rfl, rfl⟩ := eM
      obtain ⟨e1, n, hn, e2⟩ := (hR.2.2.2 2 (by decide)).2.1 p hp
      obtain ⟨f1, f2⟩ := fix_nI hn hq
      have e3 : v 2 p ^^^ (1 : Int32) <<< (nI q &&& 31) = nI (n ^^^ 2 ^ q) := by rw [e2]; exact f1
      rw [← e1, e3]
      refine ⟨hR.1, hR.2.1, hR.2.2.1, all3 (mdQ_f (hR.2.2.2 0 (by decide)) (show ¬ 0 = 2 by decide) (fr_r _ _ _) (fr_u _ _ (by omega) (by omega)) (fr_r _ _ _) (fr_r _ _ _) (fr_r _ _ _) (fr_r _ _ _) (fr_r _ _ _) (fr_r _ _ _)) (mdQ_f (hR.2.2.2 1 (by decide)) (show ¬ 1 = 2 by decide) (fr_r _ _ _) (fr_u _ _ (by omega) (by omega)) (fr_r _ _ _) (fr_r _ _ _) (fr_r _ _ _) (fr_r _ _ _) (fr_r _ _ _) (fr_r _ _ _)) ⟨(hR.2.2.2 2 (by decide)).1, rv1_u (hR.2.2.2 2 (by decide)).2.1 hp ⟨_, f2, rfl⟩, (hR.2.2.2 2 (by decide)).2.2⟩⟩
  · obtain ⟨q, hq, rfl⟩ := vp_in_of hu (by decide)
    have c2 : ¬ (6 : Int32) ≤ nI q := fun h => by
      have := (nI_leI (a := 6) (b := q) (by omega) (by omega)).mp h
      omega
    rw [if_neg (ng q (by omega)), if_neg (show ¬ (0 : Int32) < 0 by decide)] at eM
    simp only [q20, q21, if_true, if_false, if_neg c2] at eM
    rcases in3_c hi with rfl | rfl | rfl
    · simp only [q10, q20, q21, if_true, if_false, Prod.mk.injEq] at eT eM
      rw [show Int32.toNatClampNeg 0 = 0 from rfl] at eM
      rw [(hR.2.2.2 0 (by decide)).2.2.1, wrap_eq (hst h3) hcn] at eT
      obtain ⟨rfl, rfl, rfl⟩ := eT
      obtain ⟨rfl, rfl, rfl, rfl⟩ := eM
      exact ⟨hR.1, hR.2.1, hR.2.2.1, all3 (mdQ_1 _ (hR.2.2.2 0 (by decide))) (mdQ_f (hR.2.2.2 1 (by decide)) (show ¬ 1 = 0 by decide) (fr_r _ _ _) (fr_r _ _ _) (fr_1 0 _ _) (fr_r _ _ _) (fr_r _ _ _) (fr_r _ _ _) (fr_r _ _ _) (fr_r _ _ _)) (mdQ_f (hR.2.2.2 2 (by decide)) (show ¬ 2 = 0 by decide) (fr_r _ _ _) (fr_r _ _ _) (fr_1 0 _ _) (fr_r _ _ _) (fr_r _ _ _) (fr_r _ _ _) (fr_r _ _ _) (fr_r _ _ _))⟩
    · simp only [q10, q20, q21, if_true, if_false, Prod.mk.injEq] at eT eM
      rw [show Int32.toNatClampNeg 1 = 1 from rfl] at eM
      rw [(hR.2.2.2 1 (by decide)).2.2.1, wrap_eq (hst h3) hcn] at eT
      obtain ⟨rfl, rfl, rfl⟩ := eT
      obtain ⟨rfl, rfl, rfl, rfl⟩ := eM
      exact ⟨hR.1, hR.2.1, hR.2.2.1, all3 (mdQ_f (hR.2.2.2 0 (by decide)) (show ¬ 0 = 1 by decide) (fr_r _ _ _) (fr_r _ _ _) (fr_1 1 _ _) (fr_r _ _ _) (fr_r _ _ _) (fr_r _ _ _) (fr_r _ _ _) (fr_r _ _ _)) (mdQ_1 _ (hR.2.2.2 1 (by decide))) (mdQ_f (hR.2.2.2 2 (by decide)) (show ¬ 2 = 1 by decide) (fr_r _ _ _) (fr_r _ _ _) (fr_1 1 _ _) (fr_r _ _ _) (fr_r _ _ _) (fr_r _ _ _) (fr_r _ _ _) (fr_r _ _ _))⟩
    · simp only [q10, q20, q21, if_true, if_false, Prod.mk.injEq] at eT eM
      rw [show Int32.toNatClampNeg 2 = 2 from rfl] at eM
      rw [(hR.2.2.2 2 (by decide)).2.2.1, wrap_eq (hst h3) hcn] at eT
      obtain ⟨rfl, rfl, rfl⟩ := eT
      obtain ⟨rfl, rfl, rfl, rfl⟩ := eM
      exact ⟨hR.1, hR.2.1, hR.2.2.1, all3 (mdQ_f (hR.2.2.2 0 (by decide)) (show ¬ 0 = 2 by decide) (fr_r _ _ _) (fr_r _ _ _) (fr_1 2 _ _) (fr_r _ _ _) (fr_r _ _ _) (fr_r _ _ _) (fr_r _ _ _) (fr_r _ _ _)) (mdQ_f (hR.2.2.2 1 (by decide)) (show ¬ 1 = 2 by decide) (fr_r _ _ _) (fr_r _ _ _) (fr_1 2 _ _) (fr_r _ _ _) (fr_r _ _ _) (fr_r _ _ _) (fr_r _ _ _) (fr_r _ _ _)) (mdQ_1 _ (hR.2.2.2 2 (by decide)))⟩
theorem rl_flipf {uT wN kp Z eg ew pe uM a8 a9 a10 a11 a12 a13 a14 a15 a28 a30 a31 a32 a36 : Nat → Int32} {F g v : Nat → Nat → Int32} {kN ko ke sn sm cm us wt oc ou ow : Nat} {cn : Nat} {x y z u y0 : Int32} {b8 b9 b10 : Nat → Int32} (hR : relA uT F g v kN wN ko kp Z eg ew ke pe sn uM sm cm us wt oc ou ow a8 a9 a10 a11 a12 a13 a14 a15 a28 a30 a31 a32 a36) (hrel : uT 5 = uM 3) (hfl : (hmB uT x && hbB y z u) = false) (eM : (b8, b9, b10, y0) = s_M_flip uM cn a8 a9 a10 x y z u) : relA uT F g v kN wN ko kp Z eg ew ke pe sn (upc uM 0 y0) sm cm us wt oc ou ow b8 b9 b10 a11 a12 a13 a14 a15 a28 a30 a31 a32 a36 := by
  have e : s_M_flip uM cn a8 a9 a10 x y z u = (a8, a9, a10, 1) := by
    unfold s_M_flip
    by_cases h3 : uM 3 = 0
    · rw [if_pos h3]
    rw [if_neg h3]
    cases hi : in3 x
    · rfl
    rw [if_neg (show ¬ bI true = 0 by decide)]
    rw [hm_M hrel, decide_eq_false h3, hi, show ((!false && true) && hbB y z u) = hbB y z u from rfl] at hfl
    unfold hbB blw at hfl
    by_cases hu : u < 0
    · rw [if_pos hu]
    rw [if_neg hu]
    by_cases hz : z < 0
    · rw [if_pos hz]
    rw [if_neg hz]
    rw [decide_eq_false hu, decide_eq_false hz] at hfl
    by_cases y0 : y = 0
    · subst y0
      rw [if_pos rfl] at hfl ⊢
      simp only [q01, show ((0 : Int32) = 2) = False from eq_false (by decide), if_false]
      by_cases h8 : 8 ≤ z
      · rw [if_pos h8]
      · rw [if_neg h8]
        by_cases h16 : u < 16
        · rw [decide_eq_false h8, decide_eq_false (Int32.not_le.mpr h16)] at hfl
          exact absurd hfl (by decide)
        · rw [if_neg h16]
    · rw [if_neg y0] at hfl ⊢
      by_cases y1 : y = 1
      · subst y1
        rw [if_pos rfl] at hfl ⊢
        simp only [show ((1 : Int32) = 2) = False from eq_false (by decide), if_false]
        by_cases h8 : 32 ≤ z
        · rw [if_pos h8]
        · rw [if_neg h8]
          by_cases h16 : u < 22
          · rw [decide_eq_false h8, decide_eq_false (Int32.not_le.mpr h16)] at hfl
            exact absurd hfl (by decide)
          · rw [if_neg h16]
      · rw [if_neg y1] at hfl ⊢
        by_cases y2 : y = 2
        · rw [if_pos y2] at hfl ⊢
          by_cases z0 : z = 0
          · rw [if_pos z0]
            by_cases h6 : 6 ≤ u
            · rw [if_pos h6]
            · rw [decide_eq_true z0, decide_eq_false h6] at hfl
              exact absurd hfl (by decide)
          · rw [if_neg z0]
        · rw [if_neg y2]
  rw [e] at eM
  simp only [Prod.mk.injEq] at eM
  obtain ⟨rfl, rfl, rfl, rfl⟩ := eM
  exact hR
theorem cgM {α : Type} {uT : Nat → Int32} {s c : Int32} (A B : α) (h7 : uT 7 = s) (hc : c = 0 ∨ c = 1 ∨ c = 2 ∨ c = 3) : (if c = 0 then A else if c = 1 then (if s = 0 then A else B) else B) = if bI (cgB uT c) = 0 then A else B := by
  unfold cgB
  rw [h7]
  rcases hc with rfl | rfl | rfl | rfl
  · rfl
  · by_cases z : s = 0
    · simp [z, bI, q10]
    · simp [z, bI, q10]
  · rfl
  · rfl
theorem cn3_r (a : Nat → Int32) : cn3 a - 0 = 0 ∨ cn3 a - 0 = 1 ∨ cn3 a - 0 = 2 ∨ cn3 a - 0 = 3 := by
  unfold cn3 z1
  by_cases h0 : a 0 = 0 <;> by_cases h1 : a 1 = 0 <;> by_cases h2 : a 2 = 0 <;> simp only [h0, h1, h2, if_true, if_false] <;> decide
theorem cn3_0 {a : Nat → Int32} (h : a 0 = 0) : cn3 a - 1 = 0 ∨ cn3 a - 1 = 1 ∨ cn3 a - 1 = 2 ∨ cn3 a - 1 = 3 := by
  unfold cn3 z1
  by_cases h0 : a 0 = 0 <;> by_cases h1 : a 1 = 0 <;> by_cases h2 : a 2 = 0 <;> first | exact absurd h h0 | (simp only [h0, h1, h2, if_true, if_false]; decide)
theorem cn3_1 {a : Nat → Int32} (h : a 1 = 0) : cn3 a - 1 = 0 ∨ cn3 a - 1 = 1 ∨ cn3 a - 1 = 2 ∨ cn3 a - 1 = 3 := by
  unfold cn3 z1
  by_cases h0 : a 0 = 0 <;> by_cases h1 : a 1 = 0 <;> by_cases h2 : a 2 = 0 <;> first | exact absurd h h1 | (simp only [h0, h1, h2, if_true, if_false]; decide)
theorem cn3_2 {a : Nat → Int32} (h : a 2 = 0) : cn3 a - 1 = 0 ∨ cn3 a - 1 = 1 ∨ cn3 a - 1 = 2 ∨ cn3 a - 1 = 3 := by
  unfold cn3 z1
  by_cases h0 : a 0 = 0 <;> by_cases h1 : a 1 = 0 <;> by_cases h2 : a 2 = 0 <;> first | exact absurd h h2 | (simp only [h0, h1, h2, if_true, if_false]; decide)
theorem rl_swap {a16 a17 : Nat → Int32} {uT wN kp Z eg ew pe uM a8 a9 a10 a11 a12 a13 a14 a15 a28 a30 a31 a32 a36 : Nat → Int32} {F g v : Nat → Nat → Int32} {kN ko ke sn sm cm us wt oc ou ow : Nat} {r r' x y0 : Int32} {F2 g2 v2 : Nat → Nat → Int32} {b8 b9 b10 b11 b12 b13 b14 b15 b16 b17 : Nat → Int32} (hR : relA uT F g v kN wN ko kp Z eg ew ke pe sn uM sm cm us wt oc ou ow a8 a9 a10 a11 a12 a13 a14 a15 a28 a30 a31 a32 a36) (hrel : uT 5 = uM 3) (eT : (r, F2, g2, v2) = s_T_swap uT F g v x) (eM : (r', b8, b9, b10, b11, b12, b13, b14, b15, b16, b17, y0) = s_M_swap uM a8 a9 a10 a11 a12 a13 a14 a15 a16 a17 x) : relA uT F2 g2 v2 kN wN ko kp Z eg ew ke pe sn (upc uM 0 y0) sm cm us wt oc ou ow b8 b9 b10 b11 b12 b13 b14 b15 a28 a30 a31 a32 a36 ∧ r = r' := by
  have kA : ∀ {r r' y0 : Int32} {F2 g2 v2 : Nat → Nat → Int32} {b8 b9 b10 b11 b12 b13 b14 b15 b16 b17 : Nat → Int32} {q : Int32}, (r, F2, g2, v2) = (0, F, g, v) → (r', b8, b9, b10, b11, b12, b13, b14, b15, b16, b17, y0) = (0, a8, a9, a10, a11, a12, a13, a14, a15, a16, a17, q) → relA uT F2 g2 v2 kN wN ko kp Z eg ew ke pe sn (upc uM 0 y0) sm cm us wt oc ou ow b8 b9 b10 b11 b12 b13 b14 b15 a28 a30 a31 a32 a36 ∧ r = r' := by
    intro r r' y0 F2 g2 v2 b8 b9 b10 b11 b12 b13 b14 b15 b16 b17 q eT eM
    simp only [Prod.mk.injEq] at eT eM
    obtain ⟨rfl, rfl, rfl, rfl⟩ := eT
    obtain ⟨rfl, rfl, rfl, rfl, rfl, rfl, rfl, rfl, rfl, rfl, rfl, rfl⟩ := eM
    exact ⟨hR, rfl⟩
  unfold s_T_swap at eT
  unfold s_M_swap at eM
  rw [hm_M hrel] at eT
  by_cases z : uM 3 = 0
  · rw [z] at eT
    rw [if_pos z] at eM
    exact kA eT eM
  · rw [if_neg z] at eM
    rw [decide_eq_false z, show (!false && in3 x) = in3 x from rfl] at eT
    cases hi : in3 x
    · rw [hi, if_pos (show bI false = 0 from rfl)] at eT eM
      exact kA eT eM
    · rw [hi, if_neg (show ¬ bI true = 0 by decide)] at eT eM
      rw [hR.1.1] at eT
      by_cases h4 : uM 4 = 0
      · have ec : s_T_countInStep F = cn3 a11 := cis F a11 (fun i hi => (hR.2.2.2 i hi).2.2.2.1)
        simp only [bnd_eq, if_pos h4, ec, show upc uM 0 (0 : Int32) 5 = uM 5 from rfl] at eT eM
        rcases in3_c hi with rfl | rfl | rfl
        · simp only [q10, q20, q21, if_true, if_false] at eT eM
          rw [(hR.2.2.2 0 (by decide)).2.2.2.1] at eT
          by_cases e0 : a11 0 = 0
          · rw [if_pos e0] at eT eM
            rw [cgM _ _ hR.1.2.1 (cn3_0 e0)] at eM
            by_cases cg : bI (cgB uT (cn3 a11 - 1)) = 0
            · rw [if_pos cg] at eT eM
              exact kA eT eM
            · rw [if_neg cg] at eT eM
              obtain ⟨g', v', c8, c9, e1, e2, h1, h2, f8, f9⟩ := blank_rel (show 0 < 3 by decide) (F 0) (g 0) (v 0) a8 a9 a10 a13 a14 a15 a16 a17 1
              rw [show nI 0 = 0 from rfl] at e2
              rw [e1] at eT
              rw [e2] at eM
              simp only [Prod.mk.injEq] at eT eM
              obtain ⟨rfl, rfl, rfl, rfl⟩ := eT
              obtain ⟨rfl, rfl, rfl, rfl, rfl, rfl, rfl, rfl, rfl, rfl, rfl, rfl⟩ := eM
              exact ⟨⟨hR.1, hR.2.1, hR.2.2.1, all3 (mdQ_b (x := 1) (y := 0) (fun _ => rfl) h1 h2) (mdQ_f (hR.2.2.2 1 (by decide)) (show ¬ 1 = 0 by decide) f8 f9 (fr_1 0 _ _) (fr_1 0 _ _) (fr_1 0 _ _) (fr_1 0 _ _) (fr_1 0 _ _) (fr_1 0 _ _)) (mdQ_f (hR.2.2.2 2 (by decide)) (show ¬ 2 = 0 by decide) f8 f9 (fr_1 0 _ _) (fr_1 0 _ _) (fr_1 0 _ _) (fr_1 0 _ _) (fr_1 0 _ _) (fr_1 0 _ _))⟩, rfl⟩
          · rw [if_neg e0] at eT eM
            rw [cgM _ _ hR.1.2.1 (cn3_r a11)] at eM
            by_cases cg : bI (cgB uT (cn3 a11 - 0)) = 0
            · rw [if_pos cg] at eT eM
              exact kA eT eM
            · rw [if_neg cg] at eT eM
              obtain ⟨g', v', c8, c9, e1, e2, h1, h2, f8, f9⟩ := blank_rel (show 0 < 3 by decide) (F 0) (g 0) (v 0) a8 a9 a10 a13 a14 a15 a16 a17 1
              rw [show nI 0 = 0 from rfl] at e2
              rw [e1] at eT
              rw [e2] at eM
              simp only [Prod.mk.injEq] at eT eM
              obtain ⟨rfl, rfl, rfl, rfl⟩ := eT
              obtain ⟨rfl, rfl, rfl, rfl, rfl, rfl, rfl, rfl, rfl, rfl, rfl, rfl⟩ := eM
              exact ⟨⟨hR.1, hR.2.1, hR.2.2.1, all3 (mdQ_b (x := 1) (y := 0) (fun _ => rfl) h1 h2) (mdQ_f (hR.2.2.2 1 (by decide)) (show ¬ 1 = 0 by decide) f8 f9 (fr_1 0 _ _) (fr_1 0 _ _) (fr_1 0 _ _) (fr_1 0 _ _) (fr_1 0 _ _) (fr_1 0 _ _)) (mdQ_f (hR.2.2.2 2 (by decide)) (show ¬ 2 = 0 by decide) f8 f9 (fr_1 0 _ _) (fr_1 0 _ _) (fr_1 0 _ _) (fr_1 0 _ _) (fr_1 0 _ _) (fr_1 0 _ _))⟩, rfl⟩
        · simp only [q10, q20, q21, if_true, if_false] at eT eM
          rw [(hR.2.2.2 1 (by decide)).2.2.2.1] at eT
          by_cases e0 : a11 1 = 0
          · rw [if_pos e0] at eT eM
            rw [cgM _ _ hR.1.2.1 (cn3_1 e0)] at eM
            by_cases cg : bI (cgB uT (cn3 a11 - 1)) = 0
            · rw [if_pos cg] at eT eM
              exact kA eT eM
            · rw [if_neg cg] at eT eM
              obtain ⟨g', v', c8, c9, e1, e2, h1, h2, f8, f9⟩ := blank_rel (show 1 < 3 by decide) (F 1) (g 1) (v 1) a8 a9 a10 a13 a14 a15 a16 a17 1
              rw [show nI 1 = 1 from rfl] at e2
              rw [e1] at eT
              rw [e2] at eM
              simp only [Prod.mk.injEq] at eT eM
              obtain ⟨rfl, rfl, rfl, rfl⟩ := eT
              obtain ⟨rfl, rfl, rfl, rfl, rfl, rfl, rfl, rfl, rfl, rfl, rfl, rfl⟩ := eM
              exact ⟨⟨hR.1, hR.2.1, hR.2.2.1, all3 (mdQ_f (hR.2.2.2 0 (by decide)) (show ¬ 0 = 1 by decide) f8 f9 (fr_1 1 _ _) (fr_1 1 _ _) (fr_1 1 _ _) (fr_1 1 _ _) (fr_1 1 _ _) (fr_1 1 _ _)) (mdQ_b (x := 1) (y := 0) (fun _ => rfl) h1 h2) (mdQ_f (hR.2.2.2 2 (by decide)) (show ¬ 2 = 1 by decide) f8 f9 (fr_1 1 _ _) (fr_1 1 _ _) (fr_1 1 _ _) (fr_1 1 _ _) (fr_1 1 _ _) (fr_1 1 _ _))⟩, rfl⟩
          · rw [if_neg e0] at eT eM
            rw [cgM _ _ hR.1.2.1 (cn3_r a11)] at eM
            by_cases cg : bI (cgB uT (cn3 a11 - 0)) = 0
            · rw [if_pos cg] at eT eM
              exact kA eT eM
            · rw [if_neg cg] at eT eM
              obtain ⟨g', v', c8, c9, e1, e2, h1, h2, f8, f9⟩ := blank_rel (show 1 < 3 by decide) (F 1) (g 1) (v 1) a8 a9 a10 a13 a14 a15 a16 a17 1
              rw [show nI 1 = 1 from rfl] at e2
              rw [e1] at eT
              rw [e2] at eM
              simp only [Prod.mk.injEq] at eT eM
              obtain ⟨rfl, rfl, rfl, rfl⟩ := eT
              obtain ⟨rfl, rfl, rfl, rfl, rfl, rfl, rfl, rfl, rfl, rfl, rfl, rfl⟩ := eM
              exact ⟨⟨hR.1, hR.2.1, hR.2.2.1, all3 (mdQ_f (hR.2.2.2 0 (by decide)) (show ¬ 0 = 1 by decide) f8 f9 (fr_1 1 _ _) (fr_1 1 _ _) (fr_1 1 _ _) (fr_1 1 _ _) (fr_1 1 _ _) (fr_1 1 _ _)) (mdQ_b (x := 1) (y := 0) (fun _ => rfl) h1 h2) (mdQ_f (hR.2.2.2 2 (by decide)) (show ¬ 2 = 1 by decide) f8 f9 (fr_1 1 _ _) (fr_1 1 _ _) (fr_1 1 _ _) (fr_1 1 _ _) (fr_1 1 _ _) (fr_1 1 _ _))⟩, rfl⟩
        · simp only [q10, q20, q21, if_true, if_false] at eT eM
          rw [(hR.2.2.2 2 (by decide)).2.2.2.1] at eT
          by_cases e0 : a11 2 = 0
          · rw [if_pos e0] at eT eM
            rw [cgM _ _ hR.1.2.1 (cn3_2 e0)] at eM
            by_cases cg : bI (cgB uT (cn3 a11 - 1)) = 0
            · rw [if_pos cg] at eT eM
              exact kA eT eM
            · rw [if_neg cg] at eT eM
              obtain ⟨g', v', c8, c9, e1, e2, h1, h2, f8, f9⟩ := blank_rel (show 2 < 3 by decide) (F 2) (g 2) (v 2) a8 a9 a10 a13 a14 a15 a16 a17 1
              rw [show nI 2 = 2 from rfl] at e2
              rw [e1] at eT
              rw [e2] at eM
              simp only [Prod.mk.injEq] at eT eM
              obtain ⟨rfl, rfl, rfl, rfl⟩ := eT
              obtain ⟨rfl, rfl, rfl, rfl, rfl, rfl, rfl, rfl, rfl, rfl, rfl, rfl⟩ := eM
              exact ⟨⟨hR.1, hR.2.1, hR.2.2.1, all3 (mdQ_f (hR.2.2.2 0 (by decide)) (show ¬ 0 = 2 by decide) f8 f9 (fr_1 2 _ _) (fr_1 2 _ _) (fr_1 2 _ _) (fr_1 2 _ _) (fr_1 2 _ _) (fr_1 2 _ _)) (mdQ_f (hR.2.2.2 1 (by decide)) (show ¬ 1 = 2 by decide) f8 f9 (fr_1 2 _ _) (fr_1 2 _ _) (fr_1 2 _ _) (fr_1 2 _ _) (fr_1 2 _ _) (fr_1 2 _ _)) (mdQ_b (x := 1) (y := 0) (fun _ => rfl) h1 h2)⟩, rfl⟩
          · rw [if_neg e0] at eT eM
            rw [cgM _ _ hR.1.2.1 (cn3_r a11)] at eM
            by_cases cg : bI (cgB uT (cn3 a11 - 0)) = 0
            · rw [if_pos cg] at eT eM
              exact kA eT eM
            · rw [if_neg cg] at eT eM
              obtain ⟨g', v', c8, c9, e1, e2, h1, h2, f8, f9⟩ := blank_rel (show 2 < 3 by decide) (F 2) (g 2) (v 2) a8 a9 a10 a13 a14 a15 a16 a17 1
              rw [show nI 2 = 2 from rfl] at e2
              rw [e1] at eT
              rw [e2] at eM
              simp only [Prod.mk.injEq] at eT eM
              obtain ⟨rfl, rfl, rfl, rfl⟩ := eT
              obtain ⟨rfl, rfl, rfl, rfl, rfl, rfl, rfl, rfl, rfl, rfl, rfl, rfl⟩ := eM
              exact ⟨⟨hR.1, hR.2.1, hR.2.2.1, all3 (mdQ_f (hR.2.2.2 0 (by decide)) (show ¬ 0 = 2 by decide) f8 f9 (fr_1 2 _ _) (fr_1 2 _ _) (fr_1 2 _ _) (fr_1 2 _ _) (fr_1 2 _ _) (fr_1 2 _ _)) (mdQ_f (hR.2.2.2 1 (by decide)) (show ¬ 1 = 2 by decide) f8 f9 (fr_1 2 _ _) (fr_1 2 _ _) (fr_1 2 _ _) (fr_1 2 _ _) (fr_1 2 _ _) (fr_1 2 _ _)) (mdQ_b (x := 1) (y := 0) (fun _ => rfl) h1 h2)⟩, rfl⟩
      · simp only [if_neg h4] at eT eM
        rcases in3_c hi with rfl | rfl | rfl
        · exact kA eT eM
        · exact kA eT eM
        · exact kA eT eM
/-! the answers -/
theorem an_reg {uT wN kp Z eg ew pe uM a8 a9 a10 a11 a12 a13 a14 a15 a28 a30 a31 a32 a36 : Nat → Int32} {F g v : Nat → Nat → Int32} {kN ko ke sn sm cm us wt oc ou ow : Nat} {r r' x y y0 : Int32} (hR : relA uT F g v kN wN ko kp Z eg ew ke pe sn uM sm cm us wt oc ou ow a8 a9 a10 a11 a12 a13 a14 a15 a28 a30 a31 a32 a36) (hrel : uT 5 = uM 3) (eT : r = s_T_register uT g x y) (eM : (r', y0) = s_M_register uM a8 x y) : r = r' := by
  unfold s_T_register at eT
  unfold s_M_register at eM
  rw [hm_M hrel] at eT
  by_cases z : uM 3 = 0
  · rw [z] at eT
    rw [if_pos z] at eM
    rw [(Prod.mk.inj eM).1]
    exact eT
  · rw [if_neg z] at eM
    rw [decide_eq_false z, show (!false && in3 x) = in3 x from rfl] at eT
    cases hi : in3 x
    · rw [hi, if_pos (show bI false = 0 from rfl)] at eT eM
      rw [(Prod.mk.inj eM).1]
      exact eT
    · rw [hi, if_neg (show ¬ bI true = 0 by decide)] at eT eM
      by_cases y1 : y < 0
      · simp only [if_pos y1] at eT eM
        rw [(Prod.mk.inj eM).1, eT]
        simp
      · by_cases y2 : y < 8
        · have hy : vp_in y 8 := in_of (N := 8) rfl y1 (Int32.not_le.mpr y2)
          obtain ⟨p, hp, rfl⟩ := vp_in_of hy (by decide)
          have y3 : nI p ≤ 7 := (nI_leI (a := p) (b := 7) (by omega) (by omega)).mpr (by omega)
          simp only [if_neg y1, if_pos y2, if_pos y3, clr hp] at eT eM
          rcases in3_c hi with rfl | rfl | rfl
          · rw [show Int32.toNatClampNeg (((8 : Int32) * 0) + nI p) = 8 * 0 + p from ad8 (i := 0) (by decide) hp, rg1_reg (hR.2.2.2 0 (by decide)).1 hp] at eM
            rw [(Prod.mk.inj eM).1]; exact eT
          · rw [show Int32.toNatClampNeg (((8 : Int32) * 1) + nI p) = 8 * 1 + p from ad8 (i := 1) (by decide) hp, rg1_reg (hR.2.2.2 1 (by decide)).1 hp] at eM
            rw [(Prod.mk.inj eM).1]; exact eT
          · rw [show Int32.toNatClampNeg (((8 : Int32) * 2) + nI p) = 8 * 2 + p from ad8 (i := 2) (by decide) hp, rg1_reg (hR.2.2.2 2 (by decide)).1 hp] at eM
            rw [(Prod.mk.inj eM).1]; exact eT
        · have y3 : ¬ y ≤ 7 := fun h => y2 (Int32.lt_of_le_of_lt h (by decide))
          simp only [if_neg y1, if_neg y2, if_neg y3] at eT eM
          rw [(Prod.mk.inj eM).1, eT]
          simp
theorem an_code {uT wN kp Z eg ew pe uM a8 a9 a10 a11 a12 a13 a14 a15 a28 a30 a31 a32 a36 : Nat → Int32} {F g v : Nat → Nat → Int32} {kN ko ke sn sm cm us wt oc ou ow : Nat} {r r' x y y0 : Int32} (hR : relA uT F g v kN wN ko kp Z eg ew ke pe sn uM sm cm us wt oc ou ow a8 a9 a10 a11 a12 a13 a14 a15 a28 a30 a31 a32 a36) (hrel : uT 5 = uM 3) (eT : r = s_T_code uT v x y) (eM : (r', y0) = s_M_code uM a9 x y) : r = r' := by
  unfold s_T_code at eT
  unfold s_M_code at eM
  rw [hm_M hrel] at eT
  by_cases z : uM 3 = 0
  · rw [z] at eT
    rw [if_pos z] at eM
    rw [(Prod.mk.inj eM).1]
    exact eT
  · rw [if_neg z] at eM
    rw [decide_eq_false z, show (!false && in3 x) = in3 x from rfl] at eT
    cases hi : in3 x
    · rw [hi, if_pos (show bI false = 0 from rfl)] at eT eM
      rw [(Prod.mk.inj eM).1]
      exact eT
    · rw [hi, if_neg (show ¬ bI true = 0 by decide)] at eT eM
      by_cases y1 : y < 0
      · simp only [if_pos y1] at eT eM
        rw [(Prod.mk.inj eM).1, eT]
        simp
      · by_cases y2 : y < 32
        · have hy : vp_in y 32 := in_of (N := 32) rfl y1 (Int32.not_le.mpr y2)
          obtain ⟨p, hp, rfl⟩ := vp_in_of hy (by decide)
          simp only [if_neg y1, if_pos y2, nI_clamp (show p < 2 ^ 31 by omega)] at eT eM
          rcases in3_c hi with rfl | rfl | rfl
          · rw [show Int32.toNatClampNeg (((32 : Int32) * 0) + nI p) = 32 * 0 + p from ad32 (i := 0) (by decide) hp, ← ((hR.2.2.2 0 (by decide)).2.1 p hp).1] at eM
            rw [(Prod.mk.inj eM).1]; exact eT
          · rw [show Int32.toNatClampNeg (((32 : Int32) * 1) + nI p) = 32 * 1 + p from ad32 (i := 1) (by decide) hp, ← ((hR.2.2.2 1 (by decide)).2.1 p hp).1] at eM
            rw [(Prod.mk.inj eM).1]; exact eT
          · rw [show Int32.toNatClampNeg (((32 : Int32) * 2) + nI p) = 32 * 2 + p from ad32 (i := 2) (by decide) hp, ← ((hR.2.2.2 2 (by decide)).2.1 p hp).1] at eM
            rw [(Prod.mk.inj eM).1]; exact eT
        · simp only [if_neg y1, if_neg y2] at eT eM
          rw [(Prod.mk.inj eM).1, eT]
          simp
theorem an_state {uT wN kp Z eg ew pe uM a8 a9 a10 a11 a12 a13 a14 a15 a28 a30 a31 a32 a36 : Nat → Int32} {F g v : Nat → Nat → Int32} {kN ko ke sn sm cm us wt oc ou ow : Nat} {r r' x y0 : Int32} (hR : relA uT F g v kN wN ko kp Z eg ew ke pe sn uM sm cm us wt oc ou ow a8 a9 a10 a11 a12 a13 a14 a15 a28 a30 a31 a32 a36) (hrel : uT 5 = uM 3) (hsn : uT 8 = nI sn) (eT : r = s_T_state uT F kN ko ke x) (eM : (r', y0) = s_M_state uM sm cm us wt ow a11 x) : r = r' := by
  have ec : s_T_countInStep F = cn3 a11 := cis F a11 (fun i hi => (hR.2.2.2 i hi).2.2.2.1)
  obtain ⟨⟨e6, e7, e9, e10, rfl, _⟩, ⟨rfl, rfl, rfl, rfl⟩, ⟨rfl, _⟩, _⟩ := hR
  unfold s_T_state s_T_currentMode at eT
  unfold s_M_state at eM
  rw [hrel, e6, e7, e9, e10, hsn, ec] at eT
  simp only [bnd_eq] at eT
  by_cases x0 : x = 0
  · rw [if_pos x0] at eT eM
    by_cases z : uM 3 = 0
    · rw [if_pos z] at eT eM
      rw [(Prod.mk.inj eM).1]; exact eT
    · rw [if_neg z] at eT eM
      by_cases w : uM 4 = 0
      · rw [if_pos w] at eT eM
        rw [(Prod.mk.inj eM).1]; exact eT
      · rw [if_neg w] at eT eM
        rw [(Prod.mk.inj eM).1]; exact eT
  rw [if_neg x0] at eT eM
  by_cases x1 : x = 1
  · rw [if_pos x1] at eT eM; rw [(Prod.mk.inj eM).1]; exact eT
  rw [if_neg x1] at eT eM
  by_cases x2 : x = 2
  · rw [if_pos x2] at eT eM; rw [(Prod.mk.inj eM).1]; exact eT
  rw [if_neg x2] at eT eM
  by_cases x3 : x = 3
  · rw [if_pos x3] at eT eM; rw [(Prod.mk.inj eM).1]; exact eT
  rw [if_neg x3] at eT eM
  by_cases x4 : x = 4
  · rw [if_pos x4] at eT eM; rw [(Prod.mk.inj eM).1]; exact eT
  rw [if_neg x4] at eT eM
  by_cases x5 : x = 5
  · rw [if_pos x5] at eT eM; rw [(Prod.mk.inj eM).1]; exact eT
  rw [if_neg x5] at eT eM
  by_cases x6 : x = 6
  · rw [if_pos x6] at eT eM
    by_cases w : uM 5 = 0
    · rw [if_pos w] at eT eM
      rw [(Prod.mk.inj eM).1]; exact eT
    · rw [if_neg w] at eT eM
      rw [(Prod.mk.inj eM).1]; exact eT
  rw [if_neg x6] at eT eM
  rw [(Prod.mk.inj eM).1]; exact eT
theorem an_out {uT wN kp Z eg ew pe uM a8 a9 a10 a11 a12 a13 a14 a15 a28 a30 a31 a32 a36 : Nat → Int32} {F g v : Nat → Nat → Int32} {kN ko ke sn sm cm us wt oc ou ow : Nat} {r' x y0 : Int32} {lo lo2 : Nat → Int64} (hR : relA uT F g v kN wN ko kp Z eg ew ke pe sn uM sm cm us wt oc ou ow a8 a9 a10 a11 a12 a13 a14 a15 a28 a30 a31 a32 a36) (hk : ko < 2 ^ 31) (hkp : kpB (nI ko) x = true) (eT : lo2 = s_L_output_r kp x lo) (eM : (r', y0) = s_M_output uM wt a30 x) : y0 = 0 ∧ lo2 0 = r'.toInt64 := by
  obtain ⟨⟨_, _, _, _, _, h0⟩, ⟨_, _, e1, e2⟩, ⟨e3, e4, _⟩, _⟩ := hR
  simp only [kpB, Bool.and_eq_true, Bool.not_eq_true', decide_eq_false_iff_not] at hkp
  obtain ⟨k1, k2, k3⟩ := hkp
  have z : ¬ uM 3 = 0 := fun h => by
    have hz : ko = 0 := e1.trans (h0 h).1
    rw [hz] at k2
    exact k2 (Int32.not_lt.mp k1)
  unfold s_M_output at eM
  rw [← e1, ← e2, if_neg z, if_neg k1, if_neg k2, if_neg k3] at eM
  unfold s_L_output_r s_T_output at eT
  simp only [bnd_eq] at eT
  simp only [Prod.mk.injEq] at eM
  obtain ⟨rfl, rfl⟩ := eM
  exact ⟨rfl, by rw [eT]; rfl⟩
theorem an_outf {uT wN kp Z eg ew pe uM a8 a9 a10 a11 a12 a13 a14 a15 a28 a30 a31 a32 a36 : Nat → Int32} {F g v : Nat → Nat → Int32} {kN ko ke sn sm cm us wt oc ou ow : Nat} {r' x y0 : Int32} (hR : relA uT F g v kN wN ko kp Z eg ew ke pe sn uM sm cm us wt oc ou ow a8 a9 a10 a11 a12 a13 a14 a15 a28 a30 a31 a32 a36) (hkp : kpB (nI ko) x = false) (eM : (r', y0) = s_M_output uM wt a30 x) : y0 = 1 := by
  obtain ⟨_, ⟨_, _, e1, e2⟩, ⟨e3, e4, _⟩, _⟩ := hR
  unfold s_M_output at eM
  rw [← e1, ← e2] at eM
  by_cases z : uM 3 = 0
  · rw [if_pos z] at eM; exact (Prod.mk.inj eM).2
  rw [if_neg z] at eM
  by_cases k1 : x < 0
  · rw [if_pos k1] at eM; exact (Prod.mk.inj eM).2
  rw [if_neg k1] at eM
  by_cases k2 : nI ko ≤ x
  · rw [if_pos k2] at eM; exact (Prod.mk.inj eM).2
  rw [if_neg k2] at eM
  by_cases k3 : 300 ≤ x
  · rw [if_pos k3] at eM; exact (Prod.mk.inj eM).2
  exact absurd hkp (by simp [kpB, k1, k2, k3])
theorem an_perf {uT wN kp Z eg ew pe uM a8 a9 a10 a11 a12 a13 a14 a15 a28 a30 a31 a32 a36 : Nat → Int32} {F g v : Nat → Nat → Int32} {kN ko ke sn sm cm us wt oc ou ow : Nat} {r' x y0 : Int32} {lo lo2 : Nat → Int64} (hR : relA uT F g v kN wN ko kp Z eg ew ke pe sn uM sm cm us wt oc ou ow a8 a9 a10 a11 a12 a13 a14 a15 a28 a30 a31 a32 a36) (hk : ke < 2 ^ 31) (hkp : kpB (nI ke) x = true) (eT : lo2 = s_L_perfect_r pe x lo) (eM : (r', y0) = s_M_perfect uM ow a36 x) : y0 = 0 ∧ lo2 0 = r'.toInt64 := by
  obtain ⟨⟨_, _, _, _, _, h0⟩, ⟨_, _, e1, e2⟩, ⟨e3, e4, _⟩, _⟩ := hR
  simp only [kpB, Bool.and_eq_true, Bool.not_eq_true', decide_eq_false_iff_not] at hkp
  obtain ⟨k1, k2, k3⟩ := hkp
  have z : ¬ uM 3 = 0 := fun h => by
    have hz : ke = 0 := e3.trans (h0 h).2
    rw [hz] at k2
    exact k2 (Int32.not_lt.mp k1)
  unfold s_M_perfect at eM
  rw [← e3, ← e4, if_neg z, if_neg k1, if_neg k2, if_neg k3] at eM
  unfold s_L_perfect_r s_T_perfect at eT
  simp only [bnd_eq] at eT
  simp only [Prod.mk.injEq] at eM
  obtain ⟨rfl, rfl⟩ := eM
  exact ⟨rfl, by rw [eT]; rfl⟩
theorem an_perff {uT wN kp Z eg ew pe uM a8 a9 a10 a11 a12 a13 a14 a15 a28 a30 a31 a32 a36 : Nat → Int32} {F g v : Nat → Nat → Int32} {kN ko ke sn sm cm us wt oc ou ow : Nat} {r' x y0 : Int32} (hR : relA uT F g v kN wN ko kp Z eg ew ke pe sn uM sm cm us wt oc ou ow a8 a9 a10 a11 a12 a13 a14 a15 a28 a30 a31 a32 a36) (hkp : kpB (nI ke) x = false) (eM : (r', y0) = s_M_perfect uM ow a36 x) : y0 = 1 := by
  obtain ⟨_, ⟨_, _, e1, e2⟩, ⟨e3, e4, _⟩, _⟩ := hR
  unfold s_M_perfect at eM
  rw [← e3, ← e4] at eM
  by_cases z : uM 3 = 0
  · rw [if_pos z] at eM; exact (Prod.mk.inj eM).2
  rw [if_neg z] at eM
  by_cases k1 : x < 0
  · rw [if_pos k1] at eM; exact (Prod.mk.inj eM).2
  rw [if_neg k1] at eM
  by_cases k2 : nI ke ≤ x
  · rw [if_pos k2] at eM; exact (Prod.mk.inj eM).2
  rw [if_neg k2] at eM
  by_cases k3 : 300 ≤ x
  · rw [if_pos k3] at eM; exact (Prod.mk.inj eM).2
  exact absurd hkp (by simp [kpB, k1, k2, k3])
