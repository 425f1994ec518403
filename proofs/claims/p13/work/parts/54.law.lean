/-! THE CLAIM OUT OF ONE WALK OF THE LAW'S BODY. Your part is whole_start (and what it stands on); all else here is the same for every law, but numbers. -/
def R_law : String := "VotedTripleLaw"
def lw_P (b : Addr) (xs : List Int32) (args : Array Value) (s : State) : Prop := args = #[.ref b] ∧ s.IntsAt b xs ∧ xs.length ≤ 2560 ∧ (Jvm.Cond.and given_1 narrow_1).before args s = true
def lw_Q (_ : Array Value) (s : State) (o : Outcome) (t : State) : Prop := o = .returned (some (.int 1)) ∧ Framed s o t [] 601024 7293034
def lw_Z (below : List Frame) (a : Array Value) (s : State) : State → Prop := fun t => ∃ o, t.status = .running ∧ Ended t below o ∧ lw_Q a s o t
/-- the law's own end, with 1 on the stack, nothing written that was there before, its room as the claim has it -/
theorem lw_ret {p : Program} {l : Launch} {e : Env} {s : State} {m : MethodId} {below : List Frame} {meth : Method} {c : Code} {b : Nat} (hx : p.tables.exec = Jvm.exec) (hb : c.code = code) (hr : meth.sig.returnType = ret) (hlocks : meth.locks = false) {pc : Nat} {H : Heap} {ls : Array Slot} (hdg : decode code pc = .ok (.ireturn, 1)) : W p l e room_1 s m #[Value.ref b] below meth c H [] 601024 7293034 (lw_Z below #[Value.ref b] s) (F0 m pc ls [.int 1]) := by
  intro T hT X
  obtain ⟨fs, hret, hrun, hended, hW, hframe⟩ := X.leave (v := some (.int 1)) (hlocks := hlocks) (fun h => by rw [hr] at h; cases h)
  have hmeth' : T.vm.method? m = some meth := X.method'
  refine ⟨T.setFrames fs, ?_, .returned (some (.int 1)), hrun, hended, rfl, ⟨_, rfl⟩, hW, hframe⟩
  jvm_step X.here [X.here.top, hx, hb, hdg, hmeth', hr, ret, narrow_b1]
  (try refine ⟨rfl, ?_⟩); (try refine ⟨rfl, ?_⟩)
  first | (intro acts; rw [hret _ acts rfl rfl rfl]) | rw [hret _ _ rfl rfl rfl]
  exact Steps.refl _
/-- what holds at the law's entry: the machine, the code, the tables' words (any of lw_tbl by 'hts w (by decide +kernel)'), the script of L ints xs at the cell b, what the Statement gives of the start (any of its parts by flat_of_before) -/
def lw_At (p : Program) (s : State) (m : MethodId) (meth : Method) (c : Code) (b L : Nat) (xs : Nat → Int32) : Prop :=
  p.tables.exec = Jvm.exec ∧ c.code = code ∧ meth.sig.returnType = ret ∧ c.maxLocals = 7 ∧ s.vm.findClass R_law = some m.cls ∧ (∀ w ∈ lw_tbl, w.before #[Value.ref b] s = true) ∧ va_X b L xs s s.heap ∧ b < s.heap.size ∧ meth.locks = false ∧ (Jvm.Cond.and given_1 narrow_1).before #[Value.ref b] s = true

theorem nI_5 (j : Nat) : nI (5 * j) + 5 = nI (5 * (j + 1)) := by rw [show (5 : Int32) = nI 5 from rfl, nI_add, Nat.mul_add]
theorem lt5 : ∀ L, L < 5 → Int32.ofNat L - 5 < 0 := by decide
theorem sub5 {L : Nat} (h : 5 ≤ L) : Int32.ofNat L - 5 = nI (L - 5) := by
  have e : nI (L - 5) + 5 = nI L := by rw [show (5 : Int32) = nI 5 from rfl, nI_add, Nat.sub_add_cancel h]
  show nI L - 5 = nI (L - 5)
  rw [← e, Int32.add_sub_cancel]
theorem sc_go {j L : Nat} (h : 5 * j + 5 ≤ L) (hL : L ≤ 2560) : ¬ Int32.ofNat L - 5 < nI (5 * j) := by
  rw [sub5 (by omega)]
  exact fun h9 => absurd ((nI_ltI (by omega) (by omega)).mp h9) (by omega)
theorem sc_out {j L : Nat} (h : L < 5 * j + 5) (hL : L ≤ 2560) (hj : j ≤ 600 := by omega) : Int32.ofNat L - 5 < nI (5 * j) := by
  by_cases h5 : L < 5
  · exact Int32.lt_of_lt_of_le (lt5 L h5) ((nI_leI (a := 0) (b := 5 * j) (by omega) (by omega)).mpr (Nat.zero_le _))
  · rw [sub5 (by omega)]
    exact (nI_ltI (by omega) (by omega)).mpr (by omega)
theorem sc_in0 {j L : Nat} (h : 5 * j + 5 ≤ L) (hL : L ≤ 2560) : vp_in (nI (5 * j)) L := vp_in_nI (by omega) (by omega)
theorem sc_in {j L k : Nat} (h : 5 * j + 5 ≤ L) (hk : k < 5) (hL : L ≤ 2560) : vp_in (nI (5 * j) + nI k) L := by
  rw [nI_add]
  exact vp_in_nI (by omega) (by omega)
theorem n_of {x : Int32} (h : ¬ (x < 1 ∨ 2000 < x)) : ∃ k : Nat, x = nI k ∧ 1 ≤ k ∧ k ≤ 2000 := by
  have h1 : ¬ x < 1 := fun q => h (Or.inl q)
  have h2 : ¬ 2000 < x := fun q => h (Or.inr q)
  have hin : vp_in x 2001 := by
    rw [vp_in_iff]
    rw [Int32.lt_iff_toInt_lt] at h1 h2
    have e1 : Int32.toInt 1 = 1 := by decide
    have e2 : Int32.toInt 2000 = 2000 := by decide
    omega
  obtain ⟨k, hk, e⟩ := vp_in_of hin (by decide)
  refine ⟨k, e, Nat.pos_of_ne_zero fun e0 => h1 (by rw [e, e0]; decide), by omega⟩

def rfW (h0 : Nat) (p9 : Nat) (ar9 : Nat) (e9 : Nat) (n9 : Nat) (o9 : Nat) (ca : ClassId) (da : Nat → Nat) (ra : Nat → Nat) (ka : Nat → Nat) (cr : Nat → ClassId) (ck : Nat → ClassId) (q9 : Nat) (cp : ClassId) (nw9 : Nat) (cN : ClassId) (ok9 : Nat) (cO : ClassId) (er9 : Nat) (ce : ClassId) (eo9 : Nat) (ew9 : Nat) (cw : ClassId) (ek9 : Nat) (cq : ClassId) (m0 : Nat) (ga : Nat → Nat) (gc : Nat → ClassId) (ov : Nat) (co : ClassId) (uT : Nat → Int32) (F : Nat → Nat → Int32) (g : Nat → Nat → Int32) (v : Nat → Nat → Int32) (cn : Nat) (f : Nat → Int32) (kN : Nat) (wN : Nat → Int32) (ko : Nat) (kp : Nat → Int32) (Z : Nat → Int32) (eg : Nat → Int32) (ew : Nat → Int32) (ke : Nat) (pe : Nat → Int32) (sn : Nat) (uM : Nat → Int32) (sm : Nat) (cm : Nat) (us : Nat) (wt : Nat) (oc : Nat) (ou : Nat) (ow : Nat) (a8 : Nat → Int32) (a9 : Nat → Int32) (a10 : Nat → Int32) (a11 : Nat → Int32) (a12 : Nat → Int32) (a13 : Nat → Int32) (a14 : Nat → Int32) (a15 : Nat → Int32) (a16 : Nat → Int32) (a17 : Nat → Int32) (a18 : Nat → Int32) (a19 : Nat → Int32) (a20 : Nat → Int32) (a21 : Nat → Int32) (a22 : Nat → Int32) (a23 : Nat → Int32) (a28 : Nat → Int32) (a30 : Nat → Int32) (a31 : Nat → Int32) (a32 : Nat → Int32) (a36 : Nat → Int32) (lo : Nat → Int64) : va_W := [(h0, .inr (0, oT uT p9 ar9 e9 n9 o9)), (ar9, .inl (ca, 3, .inr (.inr (.inr (.inr (mo da)))))), (da 0, .inr (2, oD (F 0) (ra 0) (ka 0))), (ra 0, .inl (cr 0, 8, .inl (g 0))), (ka 0, .inl (ck 0, 32, .inl (v 0))), (da 1, .inr (2, oD (F 1) (ra 1) (ka 1))), (ra 1, .inl (cr 1, 8, .inl (g 1))), (ka 1, .inl (ck 1, 32, .inl (v 1))), (da 2, .inr (2, oD (F 2) (ra 2) (ka 2))), (ra 2, .inl (cr 2, 8, .inl (g 2))), (ka 2, .inl (ck 2, 32, .inl (v 2))), (p9, .inr (1, [.ref q9, .int (nI cn)])), (q9, .inl (cp, 64, .inl f)), (n9, .inr (4, [.ref nw9, .int (nI kN)])), (nw9, .inl (cN, 64, .inl wN)), (o9, .inr (5, [.ref ok9, .int (nI ko)])), (ok9, .inl (cO, 300, .inl kp)), (e9, .inr (3, oE Z er9 eo9 ew9)), (er9, .inl (ce, 8, .inl eg)), (ew9, .inl (cw, 32, .inl ew)), (eo9, .inr (5, [.ref ek9, .int (nI ke)])), (ek9, .inl (cq, 300, .inl pe)), (m0, .inr (6, oM ga uM cn sm cm us wt oc ou ow)), (ga 2, .inl (gc 2, 64, .inl f)), (ga 8, .inl (gc 8, 24, .inl a8)), (ga 9, .inl (gc 9, 96, .inl a9)), (ga 10, .inl (gc 10, 3, .inl a10)), (ga 11, .inl (gc 11, 3, .inl a11)), (ga 12, .inl (gc 12, 3, .inl a12)), (ga 13, .inl (gc 13, 3, .inl a13)), (ga 14, .inl (gc 14, 3, .inl a14)), (ga 15, .inl (gc 15, 3, .inl a15)), (ga 16, .inl (gc 16, 3, .inl a16)), (ga 17, .inl (gc 17, 3, .inl a17)), (ga 18, .inl (gc 18, 3, .inl a18)), (ga 19, .inl (gc 19, 3, .inl a19)), (ga 20, .inl (gc 20, 3, .inl a20)), (ga 21, .inl (gc 21, 3, .inl a21)), (ga 22, .inl (gc 22, 3, .inl a22)), (ga 23, .inl (gc 23, 3, .inl a23)), (ga 28, .inl (gc 28, 64, .inl a28)), (ga 30, .inl (gc 30, 300, .inl a30)), (ga 31, .inl (gc 31, 8, .inl a31)), (ga 32, .inl (gc 32, 32, .inl a32)), (ga 36, .inl (gc 36, 300, .inl a36)), (ov, .inl (co, 1, .inr (.inl lo)))]

def rf_Z (below : List Frame) : State → Prop := fun t => ∃ o, t.status = .running ∧ Ended t below o ∧ o = .returned (some (.int 0))
theorem rf_ret {p : Program} {l : Launch} {e : Env} {s : State} {m : MethodId} {below : List Frame} {meth : Method} {c : Code} {b : Nat} (hx : p.tables.exec = Jvm.exec) (hb : c.code = code) (hr : meth.sig.returnType = ret) (hlocks : meth.locks = false) {pc : Nat} {H : Heap} {ls : Array Slot} (hdg : decode code pc = .ok (.ireturn, 1)) : W p l e room_1 s m #[Value.ref b] below meth c H [] 601024 7293034 (rf_Z below) (F0 m pc ls [.int 0]) := by
  intro T hT X
  obtain ⟨fs, hret, hrun, hended, hW, hframe⟩ := X.leave (v := some (.int 0)) (hlocks := hlocks) (fun h => by rw [hr] at h; cases h)
  have hmeth' : T.vm.method? m = some meth := X.method'
  refine ⟨T.setFrames fs, ?_, .returned (some (.int 0)), hrun, hended, rfl⟩
  jvm_step X.here [X.here.top, hx, hb, hdg, hmeth', hr, ret, narrow_b0]
  (try refine ⟨rfl, ?_⟩); (try refine ⟨rfl, ?_⟩)
  first | (intro acts; rw [hret _ acts rfl rfl rfl]) | rw [hret _ _ rfl rfl rfl]
  exact Steps.refl _
