/-! THE CLAIM OUT OF ONE WALK OF THE LAW'S BODY. Your part is whole_start (and what it stands on); all else here is the same for every law, but numbers. -/
def R_law : String := "VotedTripleLaw"
def lw_P (b : Addr) (xs : List Int32) (args : Array Value) (s : State) : Prop := args = #[.ref b] ∧ s.IntsAt b xs ∧ xs.length ≤ 2560 ∧ (Jvm.Cond.and given_1 narrow_1).before args s = true
def lw_Q (_ : Array Value) (s : State) (o : Outcome) (t : State) : Prop := o = .returned (some (.int 1)) ∧ Framed s o t [] 601024 7293034
def lw_Z (below : List Frame) (a : Array Value) (s : State) : State → Prop := fun t => ∃ o, t.status = .running ∧ Ended t below o ∧ lw_Q a s o t
/-- the law's own end, with 1 on the stack, nothing written that was there before, its room as the claim has it -/
theorem lw_ret {p : Program} {l : Launch} {e : Env} {s : State} {m : MethodId} {below : List Frame} {meth : Method} {c : Code} {b : Nat} (hx : p.tables.exec = Jvm.exec) (hb : c.code = code) (hr : meth.sig.returnType = ret) (hlocks : meth.locks = false) {pc : Nat} {H : Heap} {ls : Array Slot} (hdg : decode code pc = .ok (.ireturn, 1)) : W p l e room_1 s m #[Value.ref b] below meth c H [] 601024 7293034 (lw_Z below #[Value.ref b] s) (F0 m pc ls [.int 1]) := by
  intro T hT X
  obtain ⟨fs, hret, hrun, hended, hW, hframe⟩ := X.leave (v := some (.int 1)) (hlocks := hlocks) (fun h => by rw [hr] at h; cases h)
  have hmeth' : T.vm.method? m = some meth := X.method'
  refine ⟨T.setFrames fs, ?_, .returned (some (.int 1)), hrun, hended, rfl, ⟨_, rfl⟩, hW, hframe⟩
  jvm_step X.here [X.here.top, hx, hb, hdg, hmeth', hr, ret, narrow_b1]
  (try refine ⟨rfl, ?_⟩); (try refine ⟨rfl, ?_⟩)
  first | (intro acts; rw [hret _ acts rfl rfl rfl]) | rw [hret _ _ rfl rfl rfl]
  exact Steps.refl _
/-- what holds at the law's entry: the machine, the code, the tables' words (any of lw_tbl by 'hts w (by decide +kernel)'), the script of L ints xs at the cell b, what the Statement gives of the start (any of its parts by flat_of_before) -/
def lw_At (p : Program) (s : State) (m : MethodId) (meth : Method) (c : Code) (b L : Nat) (xs : Nat → Int32) : Prop :=
  p.tables.exec = Jvm.exec ∧ c.code = code ∧ meth.sig.returnType = ret ∧ c.maxLocals = 7 ∧ s.vm.findClass R_law = some m.cls ∧ (∀ w ∈ lw_tbl, w.before #[Value.ref b] s = true) ∧ va_X b L xs s s.heap ∧ b < s.heap.size ∧ meth.locks = false ∧ (Jvm.Cond.and given_1 narrow_1).before #[Value.ref b] s = true

theorem nI_5 (j : Nat) : nI (5 * j) + 5 = nI (5 * (j + 1)) := by rw [show (5 : Int32) = nI 5 from rfl, nI_add, Nat.mul_add]
theorem lt5 : ∀ L, L < 5 → Int32.ofNat L - 5 < 0 := by decide
theorem sub5 {L : Nat} (h : 5 ≤ L) : Int32.ofNat L - 5 = nI (L - 5) := by
  have e : nI (L - 5) + 5 = nI L := by rw [show (5 : Int32) = nI 5 from rfl, nI_add, Nat.sub_add_cancel h]
  show nI L - 5 = nI (L - 5)
  rw [← e, Int32.add_sub_cancel]
theorem sc_go {j L : Nat} (h : 5 * j + 5 ≤ L) (hL : L ≤ 2560) : ¬ Int32.ofNat L - 5 < nI (5 * j) := by
  rw [sub5 (by omega)]
  exact fun h9 => absurd ((nI_ltI (by omega) (by omega)).mp h9) (by omega)
theorem sc_out {j L : Nat} (h : L < 5 * j + 5) (hL : L ≤ 2560) (hj : j ≤ 600 := by omega) : Int32.ofNat L - 5 < nI (5 * j) := by
  by_cases h5 : L < 5
  · exact Int32.lt_of_lt_of_le (lt5 L h5) ((nI_leI (a := 0) (b := 5 * j) (by omega) (by omega)).mpr (Nat.zero_le _))
  · rw [sub5 (by omega)]
    exact (nI_ltI (by omega) (by omega)).mpr (by omega)
theorem sc_in0 {j L : Nat} (h : 5 * j + 5 ≤ L) (hL : L ≤ 2560) : vp_in (nI (5 * j)) L := vp_in_nI (by omega) (by omega)
theorem sc_in {j L k : Nat} (h : 5 * j + 5 ≤ L) (hk : k < 5) (hL : L ≤ 2560) : vp_in (nI (5 * j) + nI k) L := by
  rw [nI_add]
  exact vp_in_nI (by omega) (by omega)
theorem n_of {x : Int32} (h : ¬ (x < 1 ∨ 2000 < x)) : ∃ k : Nat, x = nI k ∧ 1 ≤ k ∧ k ≤ 2000 := by
  have h1 : ¬ x < 1 := fun q => h (Or.inl q)
  have h2 : ¬ 2000 < x := fun q => h (Or.inr q)
  have hin : vp_in x 2001 := by
    rw [vp_in_iff]
    rw [Int32.lt_iff_toInt_lt] at h1 h2
    have e1 : Int32.toInt 1 = 1 := by decide
    have e2 : Int32.toInt 2000 = 2000 := by decide
    omega
  obtain ⟨k, hk, e⟩ := vp_in_of hin (by decide)
  refine ⟨k, e, Nat.pos_of_ne_zero fun e0 => h1 (by rw [e, e0]; decide), by omega⟩

def rf_Z (below : List Frame) : State → Prop := fun t => ∃ o, t.status = .running ∧ Ended t below o ∧ o = .returned (some (.int 0))
theorem rf_ret {p : Program} {l : Launch} {e : Env} {s : State} {m : MethodId} {below : List Frame} {meth : Method} {c : Code} {b : Nat} (hx : p.tables.exec = Jvm.exec) (hb : c.code = code) (hr : meth.sig.returnType = ret) (hlocks : meth.locks = false) {pc : Nat} {H : Heap} {ls : Array Slot} (hdg : decode code pc = .ok (.ireturn, 1)) : W p l e room_1 s m #[Value.ref b] below meth c H [] 601024 7293034 (rf_Z below) (F0 m pc ls [.int 0]) := by
  intro T hT X
  obtain ⟨fs, hret, hrun, hended, hW, hframe⟩ := X.leave (v := some (.int 0)) (hlocks := hlocks) (fun h => by rw [hr] at h; cases h)
  have hmeth' : T.vm.method? m = some meth := X.method'
  refine ⟨T.setFrames fs, ?_, .returned (some (.int 0)), hrun, hended, rfl⟩
  jvm_step X.here [X.here.top, hx, hb, hdg, hmeth', hr, ret, narrow_b0]
  (try refine ⟨rfl, ?_⟩); (try refine ⟨rfl, ?_⟩)
  first | (intro acts; rw [hret _ acts rfl rfl rfl]) | rw [hret _ _ rfl rfl rfl]
  exact Steps.refl _
