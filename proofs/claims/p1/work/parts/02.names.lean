/-! names, fields, types; decode rows: written by wip/gen/names.py out of claim/JAVAP.txt and claim/Statement.lean -/
def F_T : u_T := fun k => match k with
  | 0 => ("VotedTriple", "instructions", "LVotedTriple$Program;", true)
  | 1 => ("VotedTriple", "modules", "[LVotedTriple$VotedModule;", true)
  | 2 => ("VotedTriple", "perfectOne", "LVotedTriple$PerfectOne;", true)
  | 3 => ("VotedTriple", "wordsIn", "LVotedTriple$WordsIn;", true)
  | 4 => ("VotedTriple", "wordsOut", "LVotedTriple$WordsOut;", true)
  | 5 => ("VotedTriple", "started", "Z", false)
  | 6 => ("VotedTriple", "safe", "Z", false)
  | 7 => ("VotedTriple", "singleAllowed", "Z", false)
  | 8 => ("VotedTriple", "steps", "I", false)
  | 9 => ("VotedTriple", "stepsNotAlike", "I", false)
  | _ => ("VotedTriple", "wordsTaken", "I", false)
def ft_T : Nat → FieldType := fun k => match k with
  | 0 => (.object "VotedTriple$Program")
  | 1 => (.array (.object "VotedTriple$VotedModule"))
  | 2 => (.object "VotedTriple$PerfectOne")
  | 3 => (.object "VotedTriple$WordsIn")
  | 4 => (.object "VotedTriple$WordsOut")
  | 5 => .boolean
  | 6 => .boolean
  | 7 => .boolean
  | 8 => .int
  | 9 => .int
  | _ => .int
theorem nm_T : ∀ a, a < 11 → ∀ b, b < 11 → a ≠ b → (F_T a).2.1 ≠ (F_T b).2.1 := by decide +kernel
theorem tyok_T : ∀ k, k < 11 → parseFieldDescriptor (F_T k).2.2.1 = some (ft_T k) := by decide +kernel
theorem df_T : ∀ j, j < 11 → defaultValue (ft_T j) = vp_V [.null, .null, .null, .null, .null, .int 0, .int 0, .int 0, .int 0, .int 0, .int 0] j := fun j hj => match j, hj with
  | 0, _ => rfl
  | 1, _ => rfl
  | 2, _ => rfl
  | 3, _ => rfl
  | 4, _ => rfl
  | 5, _ => rfl
  | 6, _ => rfl
  | 7, _ => rfl
  | 8, _ => rfl
  | 9, _ => rfl
  | 10, _ => rfl
  | x + 11, h => absurd h (by omega)
def F_P : u_T := fun k => match k with
  | 0 => ("VotedTriple$Program", "words", "[I", true)
  | _ => ("VotedTriple$Program", "count", "I", false)
def ft_P : Nat → FieldType := fun k => match k with
  | 0 => (.array .int)
  | _ => .int
theorem nm_P : ∀ a, a < 2 → ∀ b, b < 2 → a ≠ b → (F_P a).2.1 ≠ (F_P b).2.1 := by decide +kernel
theorem tyok_P : ∀ k, k < 2 → parseFieldDescriptor (F_P k).2.2.1 = some (ft_P k) := by decide +kernel
theorem df_P : ∀ j, j < 2 → defaultValue (ft_P j) = vp_V [.null, .int 0] j := fun j hj => match j, hj with
  | 0, _ => rfl
  | 1, _ => rfl
  | x + 2, h => absurd h (by omega)
def F_D : u_T := fun k => match k with
  | 0 => ("VotedTriple$Processor", "registers", "[I", true)
  | 1 => ("VotedTriple$Processor", "counter", "I", false)
  | 2 => ("VotedTriple$Processor", "wish", "I", false)
  | 3 => ("VotedTriple$Processor", "wishedWord", "I", false)
  | 4 => ("VotedTriple$Processor", "inRegister", "I", false)
  | 5 => ("VotedTriple$Processor", "storedAt", "I", false)
  | 6 => ("VotedTriple$Processor", "storedWord", "I", false)
  | 7 => ("VotedTriple$VotedModule", "codes", "[I", true)
  | 8 => ("VotedTriple$VotedModule", "status", "I", false)
  | 9 => ("VotedTriple$VotedModule", "mark", "I", false)
  | 10 => ("VotedTriple$VotedModule", "blame", "I", false)
  | 11 => ("VotedTriple$VotedModule", "frozen", "Z", false)
  | 12 => ("VotedTriple$VotedModule", "toSkip", "Z", false)
  | 13 => ("VotedTriple$VotedModule", "putRight", "I", false)
  | 14 => ("VotedTriple$VotedModule", "timesNamed", "I", false)
  | 15 => ("VotedTriple$VotedModule", "named", "Z", false)
  | 16 => ("VotedTriple$VotedModule", "readSpoilt", "Z", false)
  | 17 => ("VotedTriple$VotedModule", "scrubFoundSpoilt", "Z", false)
  | _ => ("VotedTriple$VotedModule", "ballot", "I", false)
def ft_D : Nat → FieldType := fun k => match k with
  | 0 => (.array .int)
  | 1 => .int
  | 2 => .int
  | 3 => .int
  | 4 => .int
  | 5 => .int
  | 6 => .int
  | 7 => (.array .int)
  | 8 => .int
  | 9 => .int
  | 10 => .int
  | 11 => .boolean
  | 12 => .boolean
  | 13 => .int
  | 14 => .int
  | 15 => .boolean
  | 16 => .boolean
  | 17 => .boolean
  | _ => .int
theorem nm_D : ∀ a, a < 19 → ∀ b, b < 19 → a ≠ b → (F_D a).2.1 ≠ (F_D b).2.1 := by decide +kernel
theorem tyok_D : ∀ k, k < 19 → parseFieldDescriptor (F_D k).2.2.1 = some (ft_D k) := by decide +kernel
theorem df_D : ∀ j, j < 19 → defaultValue (ft_D j) = vp_V [.null, .int 0, .int 0, .int 0, .int 0, .int 0, .int 0, .null, .int 0, .int 0, .int 0, .int 0, .int 0, .int 0, .int 0, .int 0, .int 0, .int 0, .int 0] j := fun j hj => match j, hj with
  | 0, _ => rfl
  | 1, _ => rfl
  | 2, _ => rfl
  | 3, _ => rfl
  | 4, _ => rfl
  | 5, _ => rfl
  | 6, _ => rfl
  | 7, _ => rfl
  | 8, _ => rfl
  | 9, _ => rfl
  | 10, _ => rfl
  | 11, _ => rfl
  | 12, _ => rfl
  | 13, _ => rfl
  | 14, _ => rfl
  | 15, _ => rfl
  | 16, _ => rfl
  | 17, _ => rfl
  | 18, _ => rfl
  | x + 19, h => absurd h (by omega)
def F_E : u_T := fun k => match k with
  | 0 => ("VotedTriple$Processor", "registers", "[I", true)
  | 1 => ("VotedTriple$Processor", "counter", "I", false)
  | 2 => ("VotedTriple$Processor", "wish", "I", false)
  | 3 => ("VotedTriple$Processor", "wishedWord", "I", false)
  | 4 => ("VotedTriple$Processor", "inRegister", "I", false)
  | 5 => ("VotedTriple$Processor", "storedAt", "I", false)
  | 6 => ("VotedTriple$Processor", "storedWord", "I", false)
  | 7 => ("VotedTriple$PerfectOne", "wordsOut", "LVotedTriple$WordsOut;", true)
  | 8 => ("VotedTriple$PerfectOne", "words", "[I", true)
  | _ => ("VotedTriple$PerfectOne", "wordsTaken", "I", false)
def ft_E : Nat → FieldType := fun k => match k with
  | 0 => (.array .int)
  | 1 => .int
  | 2 => .int
  | 3 => .int
  | 4 => .int
  | 5 => .int
  | 6 => .int
  | 7 => (.object "VotedTriple$WordsOut")
  | 8 => (.array .int)
  | _ => .int
theorem nm_E : ∀ a, a < 10 → ∀ b, b < 10 → a ≠ b → (F_E a).2.1 ≠ (F_E b).2.1 := by decide +kernel
theorem tyok_E : ∀ k, k < 10 → parseFieldDescriptor (F_E k).2.2.1 = some (ft_E k) := by decide +kernel
theorem df_E : ∀ j, j < 10 → defaultValue (ft_E j) = vp_V [.null, .int 0, .int 0, .int 0, .int 0, .int 0, .int 0, .null, .null, .int 0] j := fun j hj => match j, hj with
  | 0, _ => rfl
  | 1, _ => rfl
  | 2, _ => rfl
  | 3, _ => rfl
  | 4, _ => rfl
  | 5, _ => rfl
  | 6, _ => rfl
  | 7, _ => rfl
  | 8, _ => rfl
  | 9, _ => rfl
  | x + 10, h => absurd h (by omega)
def F_N : u_T := fun k => match k with
  | 0 => ("VotedTriple$WordsIn", "words", "[I", true)
  | _ => ("VotedTriple$WordsIn", "count", "I", false)
def ft_N : Nat → FieldType := fun k => match k with
  | 0 => (.array .int)
  | _ => .int
theorem nm_N : ∀ a, a < 2 → ∀ b, b < 2 → a ≠ b → (F_N a).2.1 ≠ (F_N b).2.1 := by decide +kernel
theorem tyok_N : ∀ k, k < 2 → parseFieldDescriptor (F_N k).2.2.1 = some (ft_N k) := by decide +kernel
theorem df_N : ∀ j, j < 2 → defaultValue (ft_N j) = vp_V [.null, .int 0] j := fun j hj => match j, hj with
  | 0, _ => rfl
  | 1, _ => rfl
  | x + 2, h => absurd h (by omega)
def F_O : u_T := fun k => match k with
  | 0 => ("VotedTriple$WordsOut", "kept", "[I", true)
  | _ => ("VotedTriple$WordsOut", "count", "I", false)
def ft_O : Nat → FieldType := fun k => match k with
  | 0 => (.array .int)
  | _ => .int
theorem nm_O : ∀ a, a < 2 → ∀ b, b < 2 → a ≠ b → (F_O a).2.1 ≠ (F_O b).2.1 := by decide +kernel
theorem tyok_O : ∀ k, k < 2 → parseFieldDescriptor (F_O k).2.2.1 = some (ft_O k) := by decide +kernel
theorem df_O : ∀ j, j < 2 → defaultValue (ft_O j) = vp_V [.null, .int 0] j := fun j hj => match j, hj with
  | 0, _ => rfl
  | 1, _ => rfl
  | x + 2, h => absurd h (by omega)
def F_M : u_T := fun k => match k with
  | 0 => ("VotedTripleModel", "thrown", "I", false)
  | 1 => ("VotedTripleModel", "size", "I", false)
  | 2 => ("VotedTripleModel", "code", "[I", true)
  | 3 => ("VotedTripleModel", "started", "Z", false)
  | 4 => ("VotedTripleModel", "safe", "Z", false)
  | 5 => ("VotedTripleModel", "single", "Z", false)
  | 6 => ("VotedTripleModel", "steps", "I", false)
  | 7 => ("VotedTripleModel", "unlike", "I", false)
  | 8 => ("VotedTripleModel", "register", "[I", true)
  | 9 => ("VotedTripleModel", "cell", "[I", true)
  | 10 => ("VotedTripleModel", "counter", "[I", true)
  | 11 => ("VotedTripleModel", "state", "[I", true)
  | 12 => ("VotedTripleModel", "mark", "[I", true)
  | 13 => ("VotedTripleModel", "blame", "[I", true)
  | 14 => ("VotedTripleModel", "frozen", "[Z", true)
  | 15 => ("VotedTripleModel", "skips", "[Z", true)
  | 16 => ("VotedTripleModel", "mended", "[I", true)
  | 17 => ("VotedTripleModel", "namedTimes", "[I", true)
  | 18 => ("VotedTripleModel", "wish", "[I", true)
  | 19 => ("VotedTripleModel", "spoilt", "[Z", true)
  | 20 => ("VotedTripleModel", "inTo", "[I", true)
  | 21 => ("VotedTripleModel", "storeAt", "[I", true)
  | 22 => ("VotedTripleModel", "storeWord", "[I", true)
  | 23 => ("VotedTripleModel", "named", "[Z", true)
  | 24 => ("VotedTripleModel", "readSpoilt", "Z", false)
  | 25 => ("VotedTripleModel", "jump", "I", false)
  | 26 => ("VotedTripleModel", "came", "I", false)
  | 27 => ("VotedTripleModel", "used", "I", false)
  | 28 => ("VotedTripleModel", "inputs", "[I", true)
  | 29 => ("VotedTripleModel", "went", "I", false)
  | 30 => ("VotedTripleModel", "outputs", "[I", true)
  | 31 => ("VotedTripleModel", "ownRegister", "[I", true)
  | 32 => ("VotedTripleModel", "ownWord", "[I", true)
  | 33 => ("VotedTripleModel", "ownCounter", "I", false)
  | 34 => ("VotedTripleModel", "ownUsed", "I", false)
  | 35 => ("VotedTripleModel", "ownWent", "I", false)
  | _ => ("VotedTripleModel", "ownOutputs", "[I", true)
def ft_M : Nat → FieldType := fun k => match k with
  | 0 => .int
  | 1 => .int
  | 2 => (.array .int)
  | 3 => .boolean
  | 4 => .boolean
  | 5 => .boolean
  | 6 => .int
  | 7 => .int
  | 8 => (.array .int)
  | 9 => (.array .int)
  | 10 => (.array .int)
  | 11 => (.array .int)
  | 12 => (.array .int)
  | 13 => (.array .int)
  | 14 => (.array .boolean)
  | 15 => (.array .boolean)
  | 16 => (.array .int)
  | 17 => (.array .int)
  | 18 => (.array .int)
  | 19 => (.array .boolean)
  | 20 => (.array .int)
  | 21 => (.array .int)
  | 22 => (.array .int)
  | 23 => (.array .boolean)
  | 24 => .boolean
  | 25 => .int
  | 26 => .int
  | 27 => .int
  | 28 => (.array .int)
  | 29 => .int
  | 30 => (.array .int)
  | 31 => (.array .int)
  | 32 => (.array .int)
  | 33 => .int
  | 34 => .int
  | 35 => .int
  | _ => (.array .int)
theorem nm_M : ∀ a, a < 37 → ∀ b, b < 37 → a ≠ b → (F_M a).2.1 ≠ (F_M b).2.1 := by decide +kernel
theorem tyok_M : ∀ k, k < 37 → parseFieldDescriptor (F_M k).2.2.1 = some (ft_M k) := by decide +kernel
theorem df_M : ∀ j, j < 37 → defaultValue (ft_M j) = vp_V [.int 0, .int 0, .null, .int 0, .int 0, .int 0, .int 0, .int 0, .null, .null, .null, .null, .null, .null, .null, .null, .null, .null, .null, .null, .null, .null, .null, .null, .int 0, .int 0, .int 0, .int 0, .null, .int 0, .null, .null, .null, .int 0, .int 0, .int 0, .null] j := fun j hj => match j, hj with
  | 0, _ => rfl
  | 1, _ => rfl
  | 2, _ => rfl
  | 3, _ => rfl
  | 4, _ => rfl
  | 5, _ => rfl
  | 6, _ => rfl
  | 7, _ => rfl
  | 8, _ => rfl
  | 9, _ => rfl
  | 10, _ => rfl
  | 11, _ => rfl
  | 12, _ => rfl
  | 13, _ => rfl
  | 14, _ => rfl
  | 15, _ => rfl
  | 16, _ => rfl
  | 17, _ => rfl
  | 18, _ => rfl
  | 19, _ => rfl
  | 20, _ => rfl
  | 21, _ => rfl
  | 22, _ => rfl
  | 23, _ => rfl
  | 24, _ => rfl
  | 25, _ => rfl
  | 26, _ => rfl
  | 27, _ => rfl
  | 28, _ => rfl
  | 29, _ => rfl
  | 30, _ => rfl
  | 31, _ => rfl
  | 32, _ => rfl
  | 33, _ => rfl
  | 34, _ => rfl
  | 35, _ => rfl
  | 36, _ => rfl
  | x + 37, h => absurd h (by omega)
abbrev classes : List vw_C := [("VotedTriple", F_T, 11), ("VotedTriple$Program", F_P, 2), ("VotedTriple$VotedModule", F_D, 19), ("VotedTriple$PerfectOne", F_E, 10), ("VotedTriple$WordsIn", F_N, 2), ("VotedTriple$WordsOut", F_O, 2), ("VotedTripleModel", F_M, 37)]
def y_P_opOf : MethodName := ⟨"VotedTriple$Program", "opOf", "(I)I"⟩
abbrev b_P_opOf : ByteArray := prog_5_method_8_code
def y_P_aOf : MethodName := ⟨"VotedTriple$Program", "aOf", "(I)I"⟩
abbrev b_P_aOf : ByteArray := prog_5_method_9_code
def y_P_bOf : MethodName := ⟨"VotedTriple$Program", "bOf", "(I)I"⟩
abbrev b_P_bOf : ByteArray := prog_5_method_10_code
def y_P_cOf : MethodName := ⟨"VotedTriple$Program", "cOf", "(I)I"⟩
abbrev b_P_cOf : ByteArray := prog_5_method_11_code
def y_P_isRegister : MethodName := ⟨"VotedTriple$Program", "isRegister", "(I)Z"⟩
abbrev b_P_isRegister : ByteArray := prog_5_method_7_code
def y_P_isInstruction : MethodName := ⟨"VotedTriple$Program", "isInstruction", "(I)Z"⟩
abbrev b_P_isInstruction : ByteArray := prog_5_method_6_code
def y_P_put : MethodName := ⟨"VotedTriple$Program", "put", "(II)Z"⟩
abbrev b_P_put : ByteArray := prog_5_method_2_code
def y_P_canRun : MethodName := ⟨"VotedTriple$Program", "canRun", "()Z"⟩
abbrev b_P_canRun : ByteArray := prog_5_method_3_code
def y_O_keeps : MethodName := ⟨"VotedTriple$WordsOut", "keeps", "(I)Z"⟩
abbrev b_O_keeps : ByteArray := prog_8_method_4_code
def y_T_hasModule : MethodName := ⟨"VotedTriple", "hasModule", "(I)Z"⟩
abbrev b_T_hasModule : ByteArray := prog_1_method_18_code
def y_T_freeze : MethodName := ⟨"VotedTriple", "freeze", "(IZ)Z"⟩
abbrev b_T_freeze : ByteArray := prog_1_method_9_code
def y_T_skip : MethodName := ⟨"VotedTriple", "skip", "(I)Z"⟩
abbrev b_T_skip : ByteArray := prog_1_method_10_code
def y_T_swap : MethodName := ⟨"VotedTriple", "swap", "(I)Z"⟩
abbrev b_T_swap : ByteArray := prog_1_method_11_code
def y_T_module : MethodName := ⟨"VotedTriple", "module", "(II)I"⟩
abbrev b_T_module : ByteArray := prog_1_method_13_code
def y_T_register : MethodName := ⟨"VotedTriple", "register", "(II)I"⟩
abbrev b_T_register : ByteArray := prog_1_method_14_code
def y_T_code : MethodName := ⟨"VotedTriple", "code", "(II)I"⟩
abbrev b_T_code : ByteArray := prog_1_method_15_code
def y_T_input : MethodName := ⟨"VotedTriple", "input", "(I)Z"⟩
abbrev b_T_input : ByteArray := prog_1_method_5_code
def y_T_currentMode : MethodName := ⟨"VotedTriple", "currentMode", "()I"⟩
abbrev b_T_currentMode : ByteArray := prog_1_method_17_code
def y_T_start : MethodName := ⟨"VotedTriple", "start", "()Z"⟩
abbrev b_T_start : ByteArray := prog_1_method_3_code
def y_P_init : MethodName := ⟨"VotedTriple$Program", "<init>", "()V"⟩
abbrev b_P_init : ByteArray := prog_5_method_1_code
def y_N_init : MethodName := ⟨"VotedTriple$WordsIn", "<init>", "()V"⟩
abbrev b_N_init : ByteArray := prog_7_method_1_code
def y_O_init : MethodName := ⟨"VotedTriple$WordsOut", "<init>", "()V"⟩
abbrev b_O_init : ByteArray := prog_8_method_1_code
def y_C_init : MethodName := ⟨"VotedTriple$Processor", "<init>", "()V"⟩
abbrev b_C_init : ByteArray := prog_4_method_1_code
def y_D_init : MethodName := ⟨"VotedTriple$VotedModule", "<init>", "()V"⟩
abbrev b_D_init : ByteArray := prog_6_method_1_code
def y_E_init : MethodName := ⟨"VotedTriple$PerfectOne", "<init>", "()V"⟩
abbrev b_E_init : ByteArray := prog_3_method_1_code
def y_T_init : MethodName := ⟨"VotedTriple", "<init>", "()V"⟩
abbrev b_T_init : ByteArray := prog_1_method_1_code
def y_T_step : MethodName := ⟨"VotedTriple", "step", "(I)I"⟩
abbrev b_T_step : ByteArray := prog_1_method_4_code
def y_T_output : MethodName := ⟨"VotedTriple", "output", "(I)I"⟩
abbrev b_T_output : ByteArray := prog_1_method_6_code
def y_T_perfect : MethodName := ⟨"VotedTriple", "perfect", "(I)I"⟩
abbrev b_T_perfect : ByteArray := prog_1_method_7_code
def y_T_flip : MethodName := ⟨"VotedTriple", "flip", "(IIII)V"⟩
abbrev b_T_flip : ByteArray := prog_1_method_8_code
def y_T_program : MethodName := ⟨"VotedTriple", "program", "(II)Z"⟩
abbrev b_T_program : ByteArray := prog_1_method_2_code
def y_T_allow : MethodName := ⟨"VotedTriple", "allow", "(Z)V"⟩
abbrev b_T_allow : ByteArray := prog_1_method_12_code
def y_T_state : MethodName := ⟨"VotedTriple", "state", "(I)I"⟩
abbrev b_T_state : ByteArray := prog_1_method_16_code
def y_M_init : MethodName := ⟨"VotedTripleModel", "<init>", "()V"⟩
abbrev b_M_init : ByteArray := prog_10_method_1_code
def y_M_op : MethodName := ⟨"VotedTripleModel", "op", "(I)I"⟩
abbrev b_M_op : ByteArray := prog_10_method_4_code
def y_M_part : MethodName := ⟨"VotedTripleModel", "part", "(II)I"⟩
abbrev b_M_part : ByteArray := prog_10_method_5_code
def y_M_isRight : MethodName := ⟨"VotedTripleModel", "isRight", "(I)Z"⟩
abbrev b_M_isRight : ByteArray := prog_10_method_6_code
def y_M_program : MethodName := ⟨"VotedTripleModel", "program", "(II)Z"⟩
abbrev b_M_program : ByteArray := prog_10_method_7_code
def y_M_canStart : MethodName := ⟨"VotedTripleModel", "canStart", "()Z"⟩
abbrev b_M_canStart : ByteArray := prog_10_method_14_code
def y_M_start : MethodName := ⟨"VotedTripleModel", "start", "()Z"⟩
abbrev b_M_start : ByteArray := prog_10_method_16_code
def y_M_step : MethodName := ⟨"VotedTripleModel", "step", "(I)I"⟩
abbrev b_M_step : ByteArray := prog_10_method_32_code
def y_M_input : MethodName := ⟨"VotedTripleModel", "input", "(I)Z"⟩
abbrev b_M_input : ByteArray := prog_10_method_33_code
def y_M_output : MethodName := ⟨"VotedTripleModel", "output", "(I)I"⟩
abbrev b_M_output : ByteArray := prog_10_method_34_code
def y_M_perfect : MethodName := ⟨"VotedTripleModel", "perfect", "(I)I"⟩
abbrev b_M_perfect : ByteArray := prog_10_method_35_code
def y_M_freeze : MethodName := ⟨"VotedTripleModel", "freeze", "(IZ)Z"⟩
abbrev b_M_freeze : ByteArray := prog_10_method_38_code
def y_M_skip : MethodName := ⟨"VotedTripleModel", "skip", "(I)Z"⟩
abbrev b_M_skip : ByteArray := prog_10_method_39_code
def y_M_swap : MethodName := ⟨"VotedTripleModel", "swap", "(I)Z"⟩
abbrev b_M_swap : ByteArray := prog_10_method_40_code
def y_M_module : MethodName := ⟨"VotedTripleModel", "module", "(II)I"⟩
abbrev b_M_module : ByteArray := prog_10_method_42_code
def y_M_register : MethodName := ⟨"VotedTripleModel", "register", "(II)I"⟩
abbrev b_M_register : ByteArray := prog_10_method_43_code
def y_M_code : MethodName := ⟨"VotedTripleModel", "code", "(II)I"⟩
abbrev b_M_code : ByteArray := prog_10_method_44_code
def y_M_flip : MethodName := ⟨"VotedTripleModel", "flip", "(IIII)V"⟩
abbrev b_M_flip : ByteArray := prog_10_method_37_code
def y_M_state : MethodName := ⟨"VotedTripleModel", "state", "(I)I"⟩
abbrev b_M_state : ByteArray := prog_10_method_45_code
def y_M_allow : MethodName := ⟨"VotedTripleModel", "allow", "(Z)V"⟩
abbrev b_M_allow : ByteArray := prog_10_method_41_code
def y_M_thrown : MethodName := ⟨"VotedTripleModel", "thrown", "()I"⟩
abbrev b_M_thrown : ByteArray := prog_10_method_2_code
def y_L_step : MethodName := ⟨"VotedTripleLaw", "step", "(LVotedTriple;I[J)I"⟩
abbrev b_L_step : ByteArray := method_3_code
def y_L_output : MethodName := ⟨"VotedTripleLaw", "output", "(LVotedTriple;I[J)I"⟩
abbrev b_L_output : ByteArray := method_4_code
def y_L_perfect : MethodName := ⟨"VotedTripleLaw", "perfect", "(LVotedTriple;I[J)I"⟩
abbrev b_L_perfect : ByteArray := method_5_code
def y_L_flip : MethodName := ⟨"VotedTripleLaw", "flip", "(LVotedTriple;IIII)I"⟩
abbrev b_L_flip : ByteArray := method_6_code
def y_L_law : MethodName := ⟨"VotedTripleLaw", "law", "([I)Z"⟩
abbrev b_L_law : ByteArray := code
theorem d_P_opOf_0 : decode b_P_opOf 0 = .ok (.iload_n 0, 1) := by decide +kernel
theorem d_P_opOf_1 : decode b_P_opOf 1 = .ok (.bipush 24, 2) := by decide +kernel
theorem d_P_opOf_3 : decode b_P_opOf 3 = .ok (.iushr, 1) := by decide +kernel
theorem d_P_opOf_4 : decode b_P_opOf 4 = .ok (.ireturn, 1) := by decide +kernel
theorem d_P_aOf_0 : decode b_P_aOf 0 = .ok (.iload_n 0, 1) := by decide +kernel
theorem d_P_aOf_1 : decode b_P_aOf 1 = .ok (.bipush 16, 2) := by decide +kernel
theorem d_P_aOf_3 : decode b_P_aOf 3 = .ok (.iushr, 1) := by decide +kernel
theorem d_P_aOf_4 : decode b_P_aOf 4 = .ok (.sipush 255, 3) := by decide +kernel
theorem d_P_aOf_7 : decode b_P_aOf 7 = .ok (.iand, 1) := by decide +kernel
theorem d_P_aOf_8 : decode b_P_aOf 8 = .ok (.ireturn, 1) := by decide +kernel
theorem d_P_bOf_0 : decode b_P_bOf 0 = .ok (.iload_n 0, 1) := by decide +kernel
theorem d_P_bOf_1 : decode b_P_bOf 1 = .ok (.bipush 8, 2) := by decide +kernel
theorem d_P_bOf_3 : decode b_P_bOf 3 = .ok (.iushr, 1) := by decide +kernel
theorem d_P_bOf_4 : decode b_P_bOf 4 = .ok (.sipush 255, 3) := by decide +kernel
theorem d_P_bOf_7 : decode b_P_bOf 7 = .ok (.iand, 1) := by decide +kernel
theorem d_P_bOf_8 : decode b_P_bOf 8 = .ok (.ireturn, 1) := by decide +kernel
theorem d_P_cOf_0 : decode b_P_cOf 0 = .ok (.iload_n 0, 1) := by decide +kernel
theorem d_P_cOf_1 : decode b_P_cOf 1 = .ok (.sipush 255, 3) := by decide +kernel
theorem d_P_cOf_4 : decode b_P_cOf 4 = .ok (.iand, 1) := by decide +kernel
theorem d_P_cOf_5 : decode b_P_cOf 5 = .ok (.ireturn, 1) := by decide +kernel
theorem d_P_isRegister_0 : decode b_P_isRegister 0 = .ok (.iload_n 0, 1) := by decide +kernel
theorem d_P_isRegister_1 : decode b_P_isRegister 1 = .ok (.bipush 8, 2) := by decide +kernel
theorem d_P_isRegister_3 : decode b_P_isRegister 3 = .ok (.if_icmp .ge 7, 3) := by decide +kernel
theorem d_P_isRegister_6 : decode b_P_isRegister 6 = .ok (.iconst 1, 1) := by decide +kernel
theorem d_P_isRegister_7 : decode b_P_isRegister 7 = .ok (.goto 4, 3) := by decide +kernel
theorem d_P_isRegister_10 : decode b_P_isRegister 10 = .ok (.iconst 0, 1) := by decide +kernel
theorem d_P_isRegister_11 : decode b_P_isRegister 11 = .ok (.ireturn, 1) := by decide +kernel
theorem d_P_isInstruction_0 : decode b_P_isInstruction 0 = .ok (.iload_n 0, 1) := by decide +kernel
theorem d_P_isInstruction_1 : decode b_P_isInstruction 1 = .ok (.invokestatic 23, 3) := by decide +kernel
theorem d_P_isInstruction_4 : decode b_P_isInstruction 4 = .ok (.tableswitch 132 0 10 #[60, 68, 68, 68, 68, 104, 104, 60, 130, 60, 60], 60) := by decide +kernel
theorem d_P_isInstruction_64 : decode b_P_isInstruction 64 = .ok (.iload_n 0, 1) := by decide +kernel
theorem d_P_isInstruction_65 : decode b_P_isInstruction 65 = .ok (.invokestatic 33, 3) := by decide +kernel
theorem d_P_isInstruction_68 : decode b_P_isInstruction 68 = .ok (.invokestatic 36, 3) := by decide +kernel
theorem d_P_isInstruction_71 : decode b_P_isInstruction 71 = .ok (.ireturn, 1) := by decide +kernel
theorem d_P_isInstruction_72 : decode b_P_isInstruction 72 = .ok (.iload_n 0, 1) := by decide +kernel
theorem d_P_isInstruction_73 : decode b_P_isInstruction 73 = .ok (.invokestatic 33, 3) := by decide +kernel
theorem d_P_isInstruction_76 : decode b_P_isInstruction 76 = .ok (.invokestatic 36, 3) := by decide +kernel
theorem d_P_isInstruction_79 : decode b_P_isInstruction 79 = .ok (.ifCond .eq 27, 3) := by decide +kernel
theorem d_P_isInstruction_82 : decode b_P_isInstruction 82 = .ok (.iload_n 0, 1) := by decide +kernel
theorem d_P_isInstruction_83 : decode b_P_isInstruction 83 = .ok (.invokestatic 27, 3) := by decide +kernel
theorem d_P_isInstruction_86 : decode b_P_isInstruction 86 = .ok (.invokestatic 36, 3) := by decide +kernel
theorem d_P_isInstruction_89 : decode b_P_isInstruction 89 = .ok (.ifCond .eq 17, 3) := by decide +kernel
theorem d_P_isInstruction_92 : decode b_P_isInstruction 92 = .ok (.iload_n 0, 1) := by decide +kernel
theorem d_P_isInstruction_93 : decode b_P_isInstruction 93 = .ok (.invokestatic 39, 3) := by decide +kernel
theorem d_P_isInstruction_96 : decode b_P_isInstruction 96 = .ok (.invokestatic 36, 3) := by decide +kernel
theorem d_P_isInstruction_99 : decode b_P_isInstruction 99 = .ok (.ifCond .eq 7, 3) := by decide +kernel
theorem d_P_isInstruction_102 : decode b_P_isInstruction 102 = .ok (.iconst 1, 1) := by decide +kernel
theorem d_P_isInstruction_103 : decode b_P_isInstruction 103 = .ok (.goto 4, 3) := by decide +kernel
theorem d_P_isInstruction_106 : decode b_P_isInstruction 106 = .ok (.iconst 0, 1) := by decide +kernel
theorem d_P_isInstruction_107 : decode b_P_isInstruction 107 = .ok (.ireturn, 1) := by decide +kernel
theorem d_P_isInstruction_108 : decode b_P_isInstruction 108 = .ok (.iload_n 0, 1) := by decide +kernel
theorem d_P_isInstruction_109 : decode b_P_isInstruction 109 = .ok (.invokestatic 33, 3) := by decide +kernel
theorem d_P_isInstruction_112 : decode b_P_isInstruction 112 = .ok (.invokestatic 36, 3) := by decide +kernel
theorem d_P_isInstruction_115 : decode b_P_isInstruction 115 = .ok (.ifCond .eq 17, 3) := by decide +kernel
theorem d_P_isInstruction_118 : decode b_P_isInstruction 118 = .ok (.iload_n 0, 1) := by decide +kernel
theorem d_P_isInstruction_119 : decode b_P_isInstruction 119 = .ok (.invokestatic 27, 3) := by decide +kernel
theorem d_P_isInstruction_122 : decode b_P_isInstruction 122 = .ok (.invokestatic 36, 3) := by decide +kernel
theorem d_P_isInstruction_125 : decode b_P_isInstruction 125 = .ok (.ifCond .eq 7, 3) := by decide +kernel
theorem d_P_isInstruction_128 : decode b_P_isInstruction 128 = .ok (.iconst 1, 1) := by decide +kernel
theorem d_P_isInstruction_129 : decode b_P_isInstruction 129 = .ok (.goto 4, 3) := by decide +kernel
theorem d_P_isInstruction_132 : decode b_P_isInstruction 132 = .ok (.iconst 0, 1) := by decide +kernel
theorem d_P_isInstruction_133 : decode b_P_isInstruction 133 = .ok (.ireturn, 1) := by decide +kernel
theorem d_P_isInstruction_134 : decode b_P_isInstruction 134 = .ok (.iconst 1, 1) := by decide +kernel
theorem d_P_isInstruction_135 : decode b_P_isInstruction 135 = .ok (.ireturn, 1) := by decide +kernel
theorem d_P_isInstruction_136 : decode b_P_isInstruction 136 = .ok (.iconst 0, 1) := by decide +kernel
theorem d_P_isInstruction_137 : decode b_P_isInstruction 137 = .ok (.ireturn, 1) := by decide +kernel
theorem d_P_put_0 : decode b_P_put 0 = .ok (.iload_n 1, 1) := by decide +kernel
theorem d_P_put_1 : decode b_P_put 1 = .ok (.ifCond .lt 24, 3) := by decide +kernel
theorem d_P_put_4 : decode b_P_put 4 = .ok (.iload_n 1, 1) := by decide +kernel
theorem d_P_put_5 : decode b_P_put 5 = .ok (.aload_n 0, 1) := by decide +kernel
theorem d_P_put_6 : decode b_P_put 6 = .ok (.getfield 15, 3) := by decide +kernel
theorem d_P_put_9 : decode b_P_put 9 = .ok (.if_icmp .gt 16, 3) := by decide +kernel
theorem d_P_put_12 : decode b_P_put 12 = .ok (.iload_n 1, 1) := by decide +kernel
theorem d_P_put_13 : decode b_P_put 13 = .ok (.bipush 64, 2) := by decide +kernel
theorem d_P_put_15 : decode b_P_put 15 = .ok (.if_icmp .ge 10, 3) := by decide +kernel
theorem d_P_put_18 : decode b_P_put 18 = .ok (.iload_n 2, 1) := by decide +kernel
theorem d_P_put_19 : decode b_P_put 19 = .ok (.invokestatic 19, 3) := by decide +kernel
theorem d_P_put_22 : decode b_P_put 22 = .ok (.ifCond .ne 5, 3) := by decide +kernel
theorem d_P_put_25 : decode b_P_put 25 = .ok (.iconst 0, 1) := by decide +kernel
theorem d_P_put_26 : decode b_P_put 26 = .ok (.ireturn, 1) := by decide +kernel
theorem d_P_put_27 : decode b_P_put 27 = .ok (.aload_n 0, 1) := by decide +kernel
theorem d_P_put_28 : decode b_P_put 28 = .ok (.getfield 11, 3) := by decide +kernel
theorem d_P_put_31 : decode b_P_put 31 = .ok (.iload_n 1, 1) := by decide +kernel
theorem d_P_put_32 : decode b_P_put 32 = .ok (.iload_n 2, 1) := by decide +kernel
theorem d_P_put_33 : decode b_P_put 33 = .ok (.iastore, 1) := by decide +kernel
theorem d_P_put_34 : decode b_P_put 34 = .ok (.iload_n 1, 1) := by decide +kernel
theorem d_P_put_35 : decode b_P_put 35 = .ok (.aload_n 0, 1) := by decide +kernel
theorem d_P_put_36 : decode b_P_put 36 = .ok (.getfield 15, 3) := by decide +kernel
theorem d_P_put_39 : decode b_P_put 39 = .ok (.if_icmp .ne 13, 3) := by decide +kernel
theorem d_P_put_42 : decode b_P_put 42 = .ok (.aload_n 0, 1) := by decide +kernel
theorem d_P_put_43 : decode b_P_put 43 = .ok (.dup, 1) := by decide +kernel
theorem d_P_put_44 : decode b_P_put 44 = .ok (.getfield 15, 3) := by decide +kernel
theorem d_P_put_47 : decode b_P_put 47 = .ok (.iconst 1, 1) := by decide +kernel
theorem d_P_put_48 : decode b_P_put 48 = .ok (.iadd, 1) := by decide +kernel
theorem d_P_put_49 : decode b_P_put 49 = .ok (.putfield 15, 3) := by decide +kernel
theorem d_P_put_52 : decode b_P_put 52 = .ok (.iconst 1, 1) := by decide +kernel
theorem d_P_put_53 : decode b_P_put 53 = .ok (.ireturn, 1) := by decide +kernel
theorem d_P_canRun_0 : decode b_P_canRun 0 = .ok (.iconst 0, 1) := by decide +kernel
theorem d_P_canRun_1 : decode b_P_canRun 1 = .ok (.istore_n 1, 1) := by decide +kernel
theorem d_P_canRun_2 : decode b_P_canRun 2 = .ok (.iload_n 1, 1) := by decide +kernel
theorem d_P_canRun_3 : decode b_P_canRun 3 = .ok (.aload_n 0, 1) := by decide +kernel
theorem d_P_canRun_4 : decode b_P_canRun 4 = .ok (.getfield 15, 3) := by decide +kernel
theorem d_P_canRun_7 : decode b_P_canRun 7 = .ok (.if_icmp .ge 49, 3) := by decide +kernel
theorem d_P_canRun_10 : decode b_P_canRun 10 = .ok (.aload_n 0, 1) := by decide +kernel
theorem d_P_canRun_11 : decode b_P_canRun 11 = .ok (.getfield 11, 3) := by decide +kernel
theorem d_P_canRun_14 : decode b_P_canRun 14 = .ok (.iload_n 1, 1) := by decide +kernel
theorem d_P_canRun_15 : decode b_P_canRun 15 = .ok (.iaload, 1) := by decide +kernel
theorem d_P_canRun_16 : decode b_P_canRun 16 = .ok (.invokestatic 23, 3) := by decide +kernel
theorem d_P_canRun_19 : decode b_P_canRun 19 = .ok (.istore_n 2, 1) := by decide +kernel
theorem d_P_canRun_20 : decode b_P_canRun 20 = .ok (.iload_n 2, 1) := by decide +kernel
theorem d_P_canRun_21 : decode b_P_canRun 21 = .ok (.bipush 7, 2) := by decide +kernel
theorem d_P_canRun_23 : decode b_P_canRun 23 = .ok (.if_icmp .eq 9, 3) := by decide +kernel
theorem d_P_canRun_26 : decode b_P_canRun 26 = .ok (.iload_n 2, 1) := by decide +kernel
theorem d_P_canRun_27 : decode b_P_canRun 27 = .ok (.bipush 8, 2) := by decide +kernel
theorem d_P_canRun_29 : decode b_P_canRun 29 = .ok (.if_icmp .ne 21, 3) := by decide +kernel
theorem d_P_canRun_32 : decode b_P_canRun 32 = .ok (.aload_n 0, 1) := by decide +kernel
theorem d_P_canRun_33 : decode b_P_canRun 33 = .ok (.getfield 11, 3) := by decide +kernel
theorem d_P_canRun_36 : decode b_P_canRun 36 = .ok (.iload_n 1, 1) := by decide +kernel
theorem d_P_canRun_37 : decode b_P_canRun 37 = .ok (.iaload, 1) := by decide +kernel
theorem d_P_canRun_38 : decode b_P_canRun 38 = .ok (.invokestatic 27, 3) := by decide +kernel
theorem d_P_canRun_41 : decode b_P_canRun 41 = .ok (.aload_n 0, 1) := by decide +kernel
theorem d_P_canRun_42 : decode b_P_canRun 42 = .ok (.getfield 15, 3) := by decide +kernel
theorem d_P_canRun_45 : decode b_P_canRun 45 = .ok (.if_icmp .lt 5, 3) := by decide +kernel
theorem d_P_canRun_48 : decode b_P_canRun 48 = .ok (.iconst 0, 1) := by decide +kernel
theorem d_P_canRun_49 : decode b_P_canRun 49 = .ok (.ireturn, 1) := by decide +kernel
theorem d_P_canRun_50 : decode b_P_canRun 50 = .ok (.iinc 1 1, 3) := by decide +kernel
theorem d_P_canRun_53 : decode b_P_canRun 53 = .ok (.goto (-51), 3) := by decide +kernel
theorem d_P_canRun_56 : decode b_P_canRun 56 = .ok (.aload_n 0, 1) := by decide +kernel
theorem d_P_canRun_57 : decode b_P_canRun 57 = .ok (.getfield 15, 3) := by decide +kernel
theorem d_P_canRun_60 : decode b_P_canRun 60 = .ok (.ifCond .le 7, 3) := by decide +kernel
theorem d_P_canRun_63 : decode b_P_canRun 63 = .ok (.iconst 1, 1) := by decide +kernel
theorem d_P_canRun_64 : decode b_P_canRun 64 = .ok (.goto 4, 3) := by decide +kernel
theorem d_P_canRun_67 : decode b_P_canRun 67 = .ok (.iconst 0, 1) := by decide +kernel
theorem d_P_canRun_68 : decode b_P_canRun 68 = .ok (.ireturn, 1) := by decide +kernel
theorem d_O_keeps_0 : decode b_O_keeps 0 = .ok (.iload_n 1, 1) := by decide +kernel
theorem d_O_keeps_1 : decode b_O_keeps 1 = .ok (.ifCond .lt 22, 3) := by decide +kernel
theorem d_O_keeps_4 : decode b_O_keeps 4 = .ok (.iload_n 1, 1) := by decide +kernel
theorem d_O_keeps_5 : decode b_O_keeps 5 = .ok (.aload_n 0, 1) := by decide +kernel
theorem d_O_keeps_6 : decode b_O_keeps 6 = .ok (.getfield 13, 3) := by decide +kernel
theorem d_O_keeps_9 : decode b_O_keeps 9 = .ok (.if_icmp .ge 14, 3) := by decide +kernel
theorem d_O_keeps_12 : decode b_O_keeps 12 = .ok (.iload_n 1, 1) := by decide +kernel
theorem d_O_keeps_13 : decode b_O_keeps 13 = .ok (.sipush 300, 3) := by decide +kernel
theorem d_O_keeps_16 : decode b_O_keeps 16 = .ok (.if_icmp .ge 7, 3) := by decide +kernel
theorem d_O_keeps_19 : decode b_O_keeps 19 = .ok (.iconst 1, 1) := by decide +kernel
theorem d_O_keeps_20 : decode b_O_keeps 20 = .ok (.goto 4, 3) := by decide +kernel
theorem d_O_keeps_23 : decode b_O_keeps 23 = .ok (.iconst 0, 1) := by decide +kernel
theorem d_O_keeps_24 : decode b_O_keeps 24 = .ok (.ireturn, 1) := by decide +kernel
theorem d_T_hasModule_0 : decode b_T_hasModule 0 = .ok (.aload_n 0, 1) := by decide +kernel
theorem d_T_hasModule_1 : decode b_T_hasModule 1 = .ok (.getfield 44, 3) := by decide +kernel
theorem d_T_hasModule_4 : decode b_T_hasModule 4 = .ok (.ifCond .eq 16, 3) := by decide +kernel
theorem d_T_hasModule_7 : decode b_T_hasModule 7 = .ok (.iload_n 1, 1) := by decide +kernel
theorem d_T_hasModule_8 : decode b_T_hasModule 8 = .ok (.ifCond .lt 12, 3) := by decide +kernel
theorem d_T_hasModule_11 : decode b_T_hasModule 11 = .ok (.iload_n 1, 1) := by decide +kernel
theorem d_T_hasModule_12 : decode b_T_hasModule 12 = .ok (.iconst 3, 1) := by decide +kernel
theorem d_T_hasModule_13 : decode b_T_hasModule 13 = .ok (.if_icmp .ge 7, 3) := by decide +kernel
theorem d_T_hasModule_16 : decode b_T_hasModule 16 = .ok (.iconst 1, 1) := by decide +kernel
theorem d_T_hasModule_17 : decode b_T_hasModule 17 = .ok (.goto 4, 3) := by decide +kernel
theorem d_T_hasModule_20 : decode b_T_hasModule 20 = .ok (.iconst 0, 1) := by decide +kernel
theorem d_T_hasModule_21 : decode b_T_hasModule 21 = .ok (.ireturn, 1) := by decide +kernel
theorem d_T_freeze_0 : decode b_T_freeze 0 = .ok (.aload_n 0, 1) := by decide +kernel
theorem d_T_freeze_1 : decode b_T_freeze 1 = .ok (.iload_n 1, 1) := by decide +kernel
theorem d_T_freeze_2 : decode b_T_freeze 2 = .ok (.invokevirtual 119, 3) := by decide +kernel
theorem d_T_freeze_5 : decode b_T_freeze 5 = .ok (.ifCond .ne 5, 3) := by decide +kernel
theorem d_T_freeze_8 : decode b_T_freeze 8 = .ok (.iconst 0, 1) := by decide +kernel
theorem d_T_freeze_9 : decode b_T_freeze 9 = .ok (.ireturn, 1) := by decide +kernel
theorem d_T_freeze_10 : decode b_T_freeze 10 = .ok (.aload_n 0, 1) := by decide +kernel
theorem d_T_freeze_11 : decode b_T_freeze 11 = .ok (.getfield 18, 3) := by decide +kernel
theorem d_T_freeze_14 : decode b_T_freeze 14 = .ok (.iload_n 1, 1) := by decide +kernel
theorem d_T_freeze_15 : decode b_T_freeze 15 = .ok (.aaload, 1) := by decide +kernel
theorem d_T_freeze_16 : decode b_T_freeze 16 = .ok (.iload_n 2, 1) := by decide +kernel
theorem d_T_freeze_17 : decode b_T_freeze 17 = .ok (.putfield 141, 3) := by decide +kernel
theorem d_T_freeze_20 : decode b_T_freeze 20 = .ok (.iconst 1, 1) := by decide +kernel
theorem d_T_freeze_21 : decode b_T_freeze 21 = .ok (.ireturn, 1) := by decide +kernel
theorem d_T_skip_0 : decode b_T_skip 0 = .ok (.aload_n 0, 1) := by decide +kernel
theorem d_T_skip_1 : decode b_T_skip 1 = .ok (.iload_n 1, 1) := by decide +kernel
theorem d_T_skip_2 : decode b_T_skip 2 = .ok (.invokevirtual 119, 3) := by decide +kernel
theorem d_T_skip_5 : decode b_T_skip 5 = .ok (.ifCond .ne 5, 3) := by decide +kernel
theorem d_T_skip_8 : decode b_T_skip 8 = .ok (.iconst 0, 1) := by decide +kernel
theorem d_T_skip_9 : decode b_T_skip 9 = .ok (.ireturn, 1) := by decide +kernel
theorem d_T_skip_10 : decode b_T_skip 10 = .ok (.aload_n 0, 1) := by decide +kernel
theorem d_T_skip_11 : decode b_T_skip 11 = .ok (.getfield 18, 3) := by decide +kernel
theorem d_T_skip_14 : decode b_T_skip 14 = .ok (.iload_n 1, 1) := by decide +kernel
theorem d_T_skip_15 : decode b_T_skip 15 = .ok (.aaload, 1) := by decide +kernel
theorem d_T_skip_16 : decode b_T_skip 16 = .ok (.iconst 1, 1) := by decide +kernel
theorem d_T_skip_17 : decode b_T_skip 17 = .ok (.putfield 144, 3) := by decide +kernel
theorem d_T_skip_20 : decode b_T_skip 20 = .ok (.iconst 1, 1) := by decide +kernel
theorem d_T_skip_21 : decode b_T_skip 21 = .ok (.ireturn, 1) := by decide +kernel
theorem d_T_swap_0 : decode b_T_swap 0 = .ok (.aload_n 0, 1) := by decide +kernel
theorem d_T_swap_1 : decode b_T_swap 1 = .ok (.iload_n 1, 1) := by decide +kernel
theorem d_T_swap_2 : decode b_T_swap 2 = .ok (.invokevirtual 119, 3) := by decide +kernel
theorem d_T_swap_5 : decode b_T_swap 5 = .ok (.ifCond .eq 10, 3) := by decide +kernel
theorem d_T_swap_8 : decode b_T_swap 8 = .ok (.aload_n 0, 1) := by decide +kernel
theorem d_T_swap_9 : decode b_T_swap 9 = .ok (.getfield 79, 3) := by decide +kernel
theorem d_T_swap_12 : decode b_T_swap 12 = .ok (.ifCond .eq 5, 3) := by decide +kernel
theorem d_T_swap_15 : decode b_T_swap 15 = .ok (.iconst 0, 1) := by decide +kernel
theorem d_T_swap_16 : decode b_T_swap 16 = .ok (.ireturn, 1) := by decide +kernel
theorem d_T_swap_17 : decode b_T_swap 17 = .ok (.aload_n 0, 1) := by decide +kernel
theorem d_T_swap_18 : decode b_T_swap 18 = .ok (.invokevirtual 147, 3) := by decide +kernel
theorem d_T_swap_21 : decode b_T_swap 21 = .ok (.aload_n 0, 1) := by decide +kernel
theorem d_T_swap_22 : decode b_T_swap 22 = .ok (.getfield 18, 3) := by decide +kernel
theorem d_T_swap_25 : decode b_T_swap 25 = .ok (.iload_n 1, 1) := by decide +kernel
theorem d_T_swap_26 : decode b_T_swap 26 = .ok (.aaload, 1) := by decide +kernel
theorem d_T_swap_27 : decode b_T_swap 27 = .ok (.getfield 151, 3) := by decide +kernel
theorem d_T_swap_30 : decode b_T_swap 30 = .ok (.ifCond .ne 7, 3) := by decide +kernel
theorem d_T_swap_33 : decode b_T_swap 33 = .ok (.iconst 1, 1) := by decide +kernel
theorem d_T_swap_34 : decode b_T_swap 34 = .ok (.goto 4, 3) := by decide +kernel
theorem d_T_swap_37 : decode b_T_swap 37 = .ok (.iconst 0, 1) := by decide +kernel
theorem d_T_swap_38 : decode b_T_swap 38 = .ok (.isub, 1) := by decide +kernel
theorem d_T_swap_39 : decode b_T_swap 39 = .ok (.istore_n 2, 1) := by decide +kernel
theorem d_T_swap_40 : decode b_T_swap 40 = .ok (.aload_n 0, 1) := by decide +kernel
theorem d_T_swap_41 : decode b_T_swap 41 = .ok (.iload_n 2, 1) := by decide +kernel
theorem d_T_swap_42 : decode b_T_swap 42 = .ok (.invokevirtual 154, 3) := by decide +kernel
theorem d_T_swap_45 : decode b_T_swap 45 = .ok (.ifCond .ne 5, 3) := by decide +kernel
theorem d_T_swap_48 : decode b_T_swap 48 = .ok (.iconst 0, 1) := by decide +kernel
theorem d_T_swap_49 : decode b_T_swap 49 = .ok (.ireturn, 1) := by decide +kernel
theorem d_T_swap_50 : decode b_T_swap 50 = .ok (.aload_n 0, 1) := by decide +kernel
theorem d_T_swap_51 : decode b_T_swap 51 = .ok (.getfield 18, 3) := by decide +kernel
theorem d_T_swap_54 : decode b_T_swap 54 = .ok (.iload_n 1, 1) := by decide +kernel
theorem d_T_swap_55 : decode b_T_swap 55 = .ok (.aaload, 1) := by decide +kernel
theorem d_T_swap_56 : decode b_T_swap 56 = .ok (.iconst 1, 1) := by decide +kernel
theorem d_T_swap_57 : decode b_T_swap 57 = .ok (.invokevirtual 56, 3) := by decide +kernel
theorem d_T_swap_60 : decode b_T_swap 60 = .ok (.iconst 1, 1) := by decide +kernel
theorem d_T_swap_61 : decode b_T_swap 61 = .ok (.ireturn, 1) := by decide +kernel
theorem d_T_module_0 : decode b_T_module 0 = .ok (.aload_n 0, 1) := by decide +kernel
theorem d_T_module_1 : decode b_T_module 1 = .ok (.iload_n 1, 1) := by decide +kernel
theorem d_T_module_2 : decode b_T_module 2 = .ok (.invokevirtual 119, 3) := by decide +kernel
theorem d_T_module_5 : decode b_T_module 5 = .ok (.ifCond .ne 5, 3) := by decide +kernel
theorem d_T_module_8 : decode b_T_module 8 = .ok (.iconst (-1), 1) := by decide +kernel
theorem d_T_module_9 : decode b_T_module 9 = .ok (.ireturn, 1) := by decide +kernel
theorem d_T_module_10 : decode b_T_module 10 = .ok (.aload_n 0, 1) := by decide +kernel
theorem d_T_module_11 : decode b_T_module 11 = .ok (.getfield 18, 3) := by decide +kernel
theorem d_T_module_14 : decode b_T_module 14 = .ok (.iload_n 1, 1) := by decide +kernel
theorem d_T_module_15 : decode b_T_module 15 = .ok (.aaload, 1) := by decide +kernel
theorem d_T_module_16 : decode b_T_module 16 = .ok (.astore_n 3, 1) := by decide +kernel
theorem d_T_module_17 : decode b_T_module 17 = .ok (.iload_n 2, 1) := by decide +kernel
theorem d_T_module_18 : decode b_T_module 18 = .ok (.tableswitch 68 0 5 #[38, 43, 48, 53, 58, 63], 38) := by decide +kernel
theorem d_T_module_56 : decode b_T_module 56 = .ok (.aload_n 3, 1) := by decide +kernel
theorem d_T_module_57 : decode b_T_module 57 = .ok (.getfield 151, 3) := by decide +kernel
theorem d_T_module_60 : decode b_T_module 60 = .ok (.ireturn, 1) := by decide +kernel
theorem d_T_module_61 : decode b_T_module 61 = .ok (.aload_n 3, 1) := by decide +kernel
theorem d_T_module_62 : decode b_T_module 62 = .ok (.invokevirtual 157, 3) := by decide +kernel
theorem d_T_module_65 : decode b_T_module 65 = .ok (.ireturn, 1) := by decide +kernel
theorem d_T_module_66 : decode b_T_module 66 = .ok (.aload_n 3, 1) := by decide +kernel
theorem d_T_module_67 : decode b_T_module 67 = .ok (.getfield 160, 3) := by decide +kernel
theorem d_T_module_70 : decode b_T_module 70 = .ok (.ireturn, 1) := by decide +kernel
theorem d_T_module_71 : decode b_T_module 71 = .ok (.aload_n 3, 1) := by decide +kernel
theorem d_T_module_72 : decode b_T_module 72 = .ok (.getfield 134, 3) := by decide +kernel
theorem d_T_module_75 : decode b_T_module 75 = .ok (.ireturn, 1) := by decide +kernel
theorem d_T_module_76 : decode b_T_module 76 = .ok (.aload_n 3, 1) := by decide +kernel
theorem d_T_module_77 : decode b_T_module 77 = .ok (.getfield 163, 3) := by decide +kernel
theorem d_T_module_80 : decode b_T_module 80 = .ok (.ireturn, 1) := by decide +kernel
theorem d_T_module_81 : decode b_T_module 81 = .ok (.aload_n 3, 1) := by decide +kernel
theorem d_T_module_82 : decode b_T_module 82 = .ok (.getfield 166, 3) := by decide +kernel
theorem d_T_module_85 : decode b_T_module 85 = .ok (.ireturn, 1) := by decide +kernel
theorem d_T_module_86 : decode b_T_module 86 = .ok (.iconst (-1), 1) := by decide +kernel
theorem d_T_module_87 : decode b_T_module 87 = .ok (.ireturn, 1) := by decide +kernel
theorem d_T_register_0 : decode b_T_register 0 = .ok (.aload_n 0, 1) := by decide +kernel
theorem d_T_register_1 : decode b_T_register 1 = .ok (.iload_n 1, 1) := by decide +kernel
theorem d_T_register_2 : decode b_T_register 2 = .ok (.invokevirtual 119, 3) := by decide +kernel
theorem d_T_register_5 : decode b_T_register 5 = .ok (.ifCond .eq 13, 3) := by decide +kernel
theorem d_T_register_8 : decode b_T_register 8 = .ok (.iload_n 2, 1) := by decide +kernel
theorem d_T_register_9 : decode b_T_register 9 = .ok (.ifCond .lt 9, 3) := by decide +kernel
theorem d_T_register_12 : decode b_T_register 12 = .ok (.iload_n 2, 1) := by decide +kernel
theorem d_T_register_13 : decode b_T_register 13 = .ok (.bipush 8, 2) := by decide +kernel
theorem d_T_register_15 : decode b_T_register 15 = .ok (.if_icmp .lt 5, 3) := by decide +kernel
theorem d_T_register_18 : decode b_T_register 18 = .ok (.iconst (-1), 1) := by decide +kernel
theorem d_T_register_19 : decode b_T_register 19 = .ok (.ireturn, 1) := by decide +kernel
theorem d_T_register_20 : decode b_T_register 20 = .ok (.aload_n 0, 1) := by decide +kernel
theorem d_T_register_21 : decode b_T_register 21 = .ok (.getfield 18, 3) := by decide +kernel
theorem d_T_register_24 : decode b_T_register 24 = .ok (.iload_n 1, 1) := by decide +kernel
theorem d_T_register_25 : decode b_T_register 25 = .ok (.aaload, 1) := by decide +kernel
theorem d_T_register_26 : decode b_T_register 26 = .ok (.getfield 128, 3) := by decide +kernel
theorem d_T_register_29 : decode b_T_register 29 = .ok (.iload_n 2, 1) := by decide +kernel
theorem d_T_register_30 : decode b_T_register 30 = .ok (.iaload, 1) := by decide +kernel
theorem d_T_register_31 : decode b_T_register 31 = .ok (.ireturn, 1) := by decide +kernel
theorem d_T_code_0 : decode b_T_code 0 = .ok (.aload_n 0, 1) := by decide +kernel
theorem d_T_code_1 : decode b_T_code 1 = .ok (.iload_n 1, 1) := by decide +kernel
theorem d_T_code_2 : decode b_T_code 2 = .ok (.invokevirtual 119, 3) := by decide +kernel
theorem d_T_code_5 : decode b_T_code 5 = .ok (.ifCond .eq 13, 3) := by decide +kernel
theorem d_T_code_8 : decode b_T_code 8 = .ok (.iload_n 2, 1) := by decide +kernel
theorem d_T_code_9 : decode b_T_code 9 = .ok (.ifCond .lt 9, 3) := by decide +kernel
theorem d_T_code_12 : decode b_T_code 12 = .ok (.iload_n 2, 1) := by decide +kernel
theorem d_T_code_13 : decode b_T_code 13 = .ok (.bipush 32, 2) := by decide +kernel
theorem d_T_code_15 : decode b_T_code 15 = .ok (.if_icmp .lt 5, 3) := by decide +kernel
theorem d_T_code_18 : decode b_T_code 18 = .ok (.iconst (-1), 1) := by decide +kernel
theorem d_T_code_19 : decode b_T_code 19 = .ok (.ireturn, 1) := by decide +kernel
theorem d_T_code_20 : decode b_T_code 20 = .ok (.aload_n 0, 1) := by decide +kernel
theorem d_T_code_21 : decode b_T_code 21 = .ok (.getfield 18, 3) := by decide +kernel
theorem d_T_code_24 : decode b_T_code 24 = .ok (.iload_n 1, 1) := by decide +kernel
theorem d_T_code_25 : decode b_T_code 25 = .ok (.aaload, 1) := by decide +kernel
theorem d_T_code_26 : decode b_T_code 26 = .ok (.getfield 131, 3) := by decide +kernel
theorem d_T_code_29 : decode b_T_code 29 = .ok (.iload_n 2, 1) := by decide +kernel
theorem d_T_code_30 : decode b_T_code 30 = .ok (.iaload, 1) := by decide +kernel
theorem d_T_code_31 : decode b_T_code 31 = .ok (.ireturn, 1) := by decide +kernel
theorem d_T_input_0 : decode b_T_input 0 = .ok (.aload_n 0, 1) := by decide +kernel
theorem d_T_input_1 : decode b_T_input 1 = .ok (.getfield 44, 3) := by decide +kernel
theorem d_T_input_4 : decode b_T_input 4 = .ok (.ifCond .eq 21, 3) := by decide +kernel
theorem d_T_input_7 : decode b_T_input 7 = .ok (.aload_n 0, 1) := by decide +kernel
theorem d_T_input_8 : decode b_T_input 8 = .ok (.getfield 32, 3) := by decide +kernel
theorem d_T_input_11 : decode b_T_input 11 = .ok (.iload_n 1, 1) := by decide +kernel
theorem d_T_input_12 : decode b_T_input 12 = .ok (.ldc 99, 2) := by decide +kernel
theorem d_T_input_14 : decode b_T_input 14 = .ok (.iand, 1) := by decide +kernel
theorem d_T_input_15 : decode b_T_input 15 = .ok (.invokevirtual 100, 3) := by decide +kernel
theorem d_T_input_18 : decode b_T_input 18 = .ok (.ifCond .eq 7, 3) := by decide +kernel
theorem d_T_input_21 : decode b_T_input 21 = .ok (.iconst 1, 1) := by decide +kernel
theorem d_T_input_22 : decode b_T_input 22 = .ok (.goto 4, 3) := by decide +kernel
theorem d_T_input_25 : decode b_T_input 25 = .ok (.iconst 0, 1) := by decide +kernel
theorem d_T_input_26 : decode b_T_input 26 = .ok (.ireturn, 1) := by decide +kernel
theorem d_T_currentMode_0 : decode b_T_currentMode 0 = .ok (.aload_n 0, 1) := by decide +kernel
theorem d_T_currentMode_1 : decode b_T_currentMode 1 = .ok (.getfield 44, 3) := by decide +kernel
theorem d_T_currentMode_4 : decode b_T_currentMode 4 = .ok (.ifCond .ne 5, 3) := by decide +kernel
theorem d_T_currentMode_7 : decode b_T_currentMode 7 = .ok (.iconst (-1), 1) := by decide +kernel
theorem d_T_currentMode_8 : decode b_T_currentMode 8 = .ok (.ireturn, 1) := by decide +kernel
theorem d_T_currentMode_9 : decode b_T_currentMode 9 = .ok (.aload_n 0, 1) := by decide +kernel
theorem d_T_currentMode_10 : decode b_T_currentMode 10 = .ok (.getfield 79, 3) := by decide +kernel
theorem d_T_currentMode_13 : decode b_T_currentMode 13 = .ok (.ifCond .eq 7, 3) := by decide +kernel
theorem d_T_currentMode_16 : decode b_T_currentMode 16 = .ok (.iconst 0, 1) := by decide +kernel
theorem d_T_currentMode_17 : decode b_T_currentMode 17 = .ok (.goto 7, 3) := by decide +kernel
theorem d_T_currentMode_20 : decode b_T_currentMode 20 = .ok (.aload_n 0, 1) := by decide +kernel
theorem d_T_currentMode_21 : decode b_T_currentMode 21 = .ok (.invokevirtual 147, 3) := by decide +kernel
theorem d_T_currentMode_24 : decode b_T_currentMode 24 = .ok (.ireturn, 1) := by decide +kernel
theorem d_T_start_0 : decode b_T_start 0 = .ok (.aload_n 0, 1) := by decide +kernel
theorem d_T_start_1 : decode b_T_start 1 = .ok (.getfield 10, 3) := by decide +kernel
theorem d_T_start_4 : decode b_T_start 4 = .ok (.invokevirtual 52, 3) := by decide +kernel
theorem d_T_start_7 : decode b_T_start 7 = .ok (.ifCond .ne 5, 3) := by decide +kernel
theorem d_T_start_10 : decode b_T_start 10 = .ok (.iconst 0, 1) := by decide +kernel
theorem d_T_start_11 : decode b_T_start 11 = .ok (.ireturn, 1) := by decide +kernel
theorem d_T_start_12 : decode b_T_start 12 = .ok (.iconst 0, 1) := by decide +kernel
theorem d_T_start_13 : decode b_T_start 13 = .ok (.istore_n 1, 1) := by decide +kernel
theorem d_T_start_14 : decode b_T_start 14 = .ok (.iload_n 1, 1) := by decide +kernel
theorem d_T_start_15 : decode b_T_start 15 = .ok (.iconst 3, 1) := by decide +kernel
theorem d_T_start_16 : decode b_T_start 16 = .ok (.if_icmp .ge 19, 3) := by decide +kernel
theorem d_T_start_19 : decode b_T_start 19 = .ok (.aload_n 0, 1) := by decide +kernel
theorem d_T_start_20 : decode b_T_start 20 = .ok (.getfield 18, 3) := by decide +kernel
theorem d_T_start_23 : decode b_T_start 23 = .ok (.iload_n 1, 1) := by decide +kernel
theorem d_T_start_24 : decode b_T_start 24 = .ok (.aaload, 1) := by decide +kernel
theorem d_T_start_25 : decode b_T_start 25 = .ok (.iconst 0, 1) := by decide +kernel
theorem d_T_start_26 : decode b_T_start 26 = .ok (.invokevirtual 56, 3) := by decide +kernel
theorem d_T_start_29 : decode b_T_start 29 = .ok (.iinc 1 1, 3) := by decide +kernel
theorem d_T_start_32 : decode b_T_start 32 = .ok (.goto (-18), 3) := by decide +kernel
theorem d_T_start_35 : decode b_T_start 35 = .ok (.aload_n 0, 1) := by decide +kernel
theorem d_T_start_36 : decode b_T_start 36 = .ok (.getfield 25, 3) := by decide +kernel
theorem d_T_start_39 : decode b_T_start 39 = .ok (.invokevirtual 60, 3) := by decide +kernel
theorem d_T_start_42 : decode b_T_start 42 = .ok (.aload_n 0, 1) := by decide +kernel
theorem d_T_start_43 : decode b_T_start 43 = .ok (.getfield 32, 3) := by decide +kernel
theorem d_T_start_46 : decode b_T_start 46 = .ok (.invokevirtual 62, 3) := by decide +kernel
theorem d_T_start_49 : decode b_T_start 49 = .ok (.aload_n 0, 1) := by decide +kernel
theorem d_T_start_50 : decode b_T_start 50 = .ok (.getfield 39, 3) := by decide +kernel
theorem d_T_start_53 : decode b_T_start 53 = .ok (.invokevirtual 65, 3) := by decide +kernel
theorem d_T_start_56 : decode b_T_start 56 = .ok (.aload_n 0, 1) := by decide +kernel
theorem d_T_start_57 : decode b_T_start 57 = .ok (.iconst 0, 1) := by decide +kernel
theorem d_T_start_58 : decode b_T_start 58 = .ok (.putfield 66, 3) := by decide +kernel
theorem d_T_start_61 : decode b_T_start 61 = .ok (.aload_n 0, 1) := by decide +kernel
theorem d_T_start_62 : decode b_T_start 62 = .ok (.iconst 0, 1) := by decide +kernel
theorem d_T_start_63 : decode b_T_start 63 = .ok (.putfield 70, 3) := by decide +kernel
theorem d_T_start_66 : decode b_T_start 66 = .ok (.aload_n 0, 1) := by decide +kernel
theorem d_T_start_67 : decode b_T_start 67 = .ok (.iconst 0, 1) := by decide +kernel
theorem d_T_start_68 : decode b_T_start 68 = .ok (.putfield 73, 3) := by decide +kernel
theorem d_T_start_71 : decode b_T_start 71 = .ok (.aload_n 0, 1) := by decide +kernel
theorem d_T_start_72 : decode b_T_start 72 = .ok (.iconst 0, 1) := by decide +kernel
theorem d_T_start_73 : decode b_T_start 73 = .ok (.putfield 76, 3) := by decide +kernel
theorem d_T_start_76 : decode b_T_start 76 = .ok (.aload_n 0, 1) := by decide +kernel
theorem d_T_start_77 : decode b_T_start 77 = .ok (.iconst 0, 1) := by decide +kernel
theorem d_T_start_78 : decode b_T_start 78 = .ok (.putfield 79, 3) := by decide +kernel
theorem d_T_start_81 : decode b_T_start 81 = .ok (.aload_n 0, 1) := by decide +kernel
theorem d_T_start_82 : decode b_T_start 82 = .ok (.iconst 1, 1) := by decide +kernel
theorem d_T_start_83 : decode b_T_start 83 = .ok (.putfield 44, 3) := by decide +kernel
theorem d_T_start_86 : decode b_T_start 86 = .ok (.iconst 1, 1) := by decide +kernel
theorem d_T_start_87 : decode b_T_start 87 = .ok (.ireturn, 1) := by decide +kernel
theorem d_P_init_0 : decode b_P_init 0 = .ok (.aload_n 0, 1) := by decide +kernel
theorem d_P_init_1 : decode b_P_init 1 = .ok (.invokespecial 3, 3) := by decide +kernel
theorem d_P_init_4 : decode b_P_init 4 = .ok (.aload_n 0, 1) := by decide +kernel
theorem d_P_init_5 : decode b_P_init 5 = .ok (.bipush 64, 2) := by decide +kernel
theorem d_P_init_7 : decode b_P_init 7 = .ok (.newarray .int, 2) := by decide +kernel
theorem d_P_init_9 : decode b_P_init 9 = .ok (.putfield 11, 3) := by decide +kernel
theorem d_P_init_12 : decode b_P_init 12 = .ok (.return_, 1) := by decide +kernel
theorem d_N_init_0 : decode b_N_init 0 = .ok (.aload_n 0, 1) := by decide +kernel
theorem d_N_init_1 : decode b_N_init 1 = .ok (.invokespecial 1, 3) := by decide +kernel
theorem d_N_init_4 : decode b_N_init 4 = .ok (.aload_n 0, 1) := by decide +kernel
theorem d_N_init_5 : decode b_N_init 5 = .ok (.bipush 64, 2) := by decide +kernel
theorem d_N_init_7 : decode b_N_init 7 = .ok (.newarray .int, 2) := by decide +kernel
theorem d_N_init_9 : decode b_N_init 9 = .ok (.putfield 9, 3) := by decide +kernel
theorem d_N_init_12 : decode b_N_init 12 = .ok (.return_, 1) := by decide +kernel
theorem d_O_init_0 : decode b_O_init 0 = .ok (.aload_n 0, 1) := by decide +kernel
theorem d_O_init_1 : decode b_O_init 1 = .ok (.invokespecial 1, 3) := by decide +kernel
theorem d_O_init_4 : decode b_O_init 4 = .ok (.aload_n 0, 1) := by decide +kernel
theorem d_O_init_5 : decode b_O_init 5 = .ok (.sipush 300, 3) := by decide +kernel
theorem d_O_init_8 : decode b_O_init 8 = .ok (.newarray .int, 2) := by decide +kernel
theorem d_O_init_10 : decode b_O_init 10 = .ok (.putfield 9, 3) := by decide +kernel
theorem d_O_init_13 : decode b_O_init 13 = .ok (.return_, 1) := by decide +kernel
theorem d_C_init_0 : decode b_C_init 0 = .ok (.aload_n 0, 1) := by decide +kernel
theorem d_C_init_1 : decode b_C_init 1 = .ok (.invokespecial 3, 3) := by decide +kernel
theorem d_C_init_4 : decode b_C_init 4 = .ok (.aload_n 0, 1) := by decide +kernel
theorem d_C_init_5 : decode b_C_init 5 = .ok (.bipush 8, 2) := by decide +kernel
theorem d_C_init_7 : decode b_C_init 7 = .ok (.newarray .int, 2) := by decide +kernel
theorem d_C_init_9 : decode b_C_init 9 = .ok (.putfield 9, 3) := by decide +kernel
theorem d_C_init_12 : decode b_C_init 12 = .ok (.return_, 1) := by decide +kernel
theorem d_D_init_0 : decode b_D_init 0 = .ok (.aload_n 0, 1) := by decide +kernel
theorem d_D_init_1 : decode b_D_init 1 = .ok (.invokespecial 3, 3) := by decide +kernel
theorem d_D_init_4 : decode b_D_init 4 = .ok (.aload_n 0, 1) := by decide +kernel
theorem d_D_init_5 : decode b_D_init 5 = .ok (.bipush 32, 2) := by decide +kernel
theorem d_D_init_7 : decode b_D_init 7 = .ok (.newarray .int, 2) := by decide +kernel
theorem d_D_init_9 : decode b_D_init 9 = .ok (.putfield 9, 3) := by decide +kernel
theorem d_D_init_12 : decode b_D_init 12 = .ok (.return_, 1) := by decide +kernel
theorem d_E_init_0 : decode b_E_init 0 = .ok (.aload_n 0, 1) := by decide +kernel
theorem d_E_init_1 : decode b_E_init 1 = .ok (.invokespecial 3, 3) := by decide +kernel
theorem d_E_init_4 : decode b_E_init 4 = .ok (.aload_n 0, 1) := by decide +kernel
theorem d_E_init_5 : decode b_E_init 5 = .ok (.new 9, 3) := by decide +kernel
theorem d_E_init_8 : decode b_E_init 8 = .ok (.dup, 1) := by decide +kernel
theorem d_E_init_9 : decode b_E_init 9 = .ok (.invokespecial 11, 3) := by decide +kernel
theorem d_E_init_12 : decode b_E_init 12 = .ok (.putfield 12, 3) := by decide +kernel
theorem d_E_init_15 : decode b_E_init 15 = .ok (.aload_n 0, 1) := by decide +kernel
theorem d_E_init_16 : decode b_E_init 16 = .ok (.bipush 32, 2) := by decide +kernel
theorem d_E_init_18 : decode b_E_init 18 = .ok (.newarray .int, 2) := by decide +kernel
theorem d_E_init_20 : decode b_E_init 20 = .ok (.putfield 18, 3) := by decide +kernel
theorem d_E_init_23 : decode b_E_init 23 = .ok (.return_, 1) := by decide +kernel
theorem d_T_init_0 : decode b_T_init 0 = .ok (.aload_n 0, 1) := by decide +kernel
theorem d_T_init_1 : decode b_T_init 1 = .ok (.invokespecial 1, 3) := by decide +kernel
theorem d_T_init_4 : decode b_T_init 4 = .ok (.aload_n 0, 1) := by decide +kernel
theorem d_T_init_5 : decode b_T_init 5 = .ok (.new 7, 3) := by decide +kernel
theorem d_T_init_8 : decode b_T_init 8 = .ok (.dup, 1) := by decide +kernel
theorem d_T_init_9 : decode b_T_init 9 = .ok (.invokespecial 9, 3) := by decide +kernel
theorem d_T_init_12 : decode b_T_init 12 = .ok (.putfield 10, 3) := by decide +kernel
theorem d_T_init_15 : decode b_T_init 15 = .ok (.aload_n 0, 1) := by decide +kernel
theorem d_T_init_16 : decode b_T_init 16 = .ok (.iconst 3, 1) := by decide +kernel
theorem d_T_init_17 : decode b_T_init 17 = .ok (.anewarray 16, 3) := by decide +kernel
theorem d_T_init_20 : decode b_T_init 20 = .ok (.putfield 18, 3) := by decide +kernel
theorem d_T_init_23 : decode b_T_init 23 = .ok (.aload_n 0, 1) := by decide +kernel
theorem d_T_init_24 : decode b_T_init 24 = .ok (.new 22, 3) := by decide +kernel
theorem d_T_init_27 : decode b_T_init 27 = .ok (.dup, 1) := by decide +kernel
theorem d_T_init_28 : decode b_T_init 28 = .ok (.invokespecial 24, 3) := by decide +kernel
theorem d_T_init_31 : decode b_T_init 31 = .ok (.putfield 25, 3) := by decide +kernel
theorem d_T_init_34 : decode b_T_init 34 = .ok (.aload_n 0, 1) := by decide +kernel
theorem d_T_init_35 : decode b_T_init 35 = .ok (.new 29, 3) := by decide +kernel
theorem d_T_init_38 : decode b_T_init 38 = .ok (.dup, 1) := by decide +kernel
theorem d_T_init_39 : decode b_T_init 39 = .ok (.invokespecial 31, 3) := by decide +kernel
theorem d_T_init_42 : decode b_T_init 42 = .ok (.putfield 32, 3) := by decide +kernel
theorem d_T_init_45 : decode b_T_init 45 = .ok (.aload_n 0, 1) := by decide +kernel
theorem d_T_init_46 : decode b_T_init 46 = .ok (.new 36, 3) := by decide +kernel
theorem d_T_init_49 : decode b_T_init 49 = .ok (.dup, 1) := by decide +kernel
theorem d_T_init_50 : decode b_T_init 50 = .ok (.invokespecial 38, 3) := by decide +kernel
theorem d_T_init_53 : decode b_T_init 53 = .ok (.putfield 39, 3) := by decide +kernel
theorem d_T_init_56 : decode b_T_init 56 = .ok (.iconst 0, 1) := by decide +kernel
theorem d_T_init_57 : decode b_T_init 57 = .ok (.istore_n 1, 1) := by decide +kernel
theorem d_T_init_58 : decode b_T_init 58 = .ok (.iload_n 1, 1) := by decide +kernel
theorem d_T_init_59 : decode b_T_init 59 = .ok (.iconst 3, 1) := by decide +kernel
theorem d_T_init_60 : decode b_T_init 60 = .ok (.if_icmp .ge 22, 3) := by decide +kernel
theorem d_T_init_63 : decode b_T_init 63 = .ok (.aload_n 0, 1) := by decide +kernel
theorem d_T_init_64 : decode b_T_init 64 = .ok (.getfield 18, 3) := by decide +kernel
theorem d_T_init_67 : decode b_T_init 67 = .ok (.iload_n 1, 1) := by decide +kernel
theorem d_T_init_68 : decode b_T_init 68 = .ok (.new 16, 3) := by decide +kernel
theorem d_T_init_71 : decode b_T_init 71 = .ok (.dup, 1) := by decide +kernel
theorem d_T_init_72 : decode b_T_init 72 = .ok (.invokespecial 43, 3) := by decide +kernel
theorem d_T_init_75 : decode b_T_init 75 = .ok (.aastore, 1) := by decide +kernel
theorem d_T_init_76 : decode b_T_init 76 = .ok (.iinc 1 1, 3) := by decide +kernel
theorem d_T_init_79 : decode b_T_init 79 = .ok (.goto (-21), 3) := by decide +kernel
theorem d_T_init_82 : decode b_T_init 82 = .ok (.return_, 1) := by decide +kernel
theorem d_T_step_0 : decode b_T_step 0 = .ok (.aload_n 0, 1) := by decide +kernel
theorem d_T_step_1 : decode b_T_step 1 = .ok (.getfield 44, 3) := by decide +kernel
theorem d_T_step_4 : decode b_T_step 4 = .ok (.ifCond .ne 13, 3) := by decide +kernel
theorem d_T_step_7 : decode b_T_step 7 = .ok (.new 82, 3) := by decide +kernel
theorem d_T_step_10 : decode b_T_step 10 = .ok (.dup, 1) := by decide +kernel
theorem d_T_step_11 : decode b_T_step 11 = .ok (.ldc 84, 2) := by decide +kernel
theorem d_T_step_13 : decode b_T_step 13 = .ok (.invokespecial 86, 3) := by decide +kernel
theorem d_T_step_16 : decode b_T_step 16 = .ok (.athrow, 1) := by decide +kernel
theorem d_T_step_17 : decode b_T_step 17 = .ok (.iload_n 1, 1) := by decide +kernel
theorem d_T_step_18 : decode b_T_step 18 = .ok (.iconst 1, 1) := by decide +kernel
theorem d_T_step_19 : decode b_T_step 19 = .ok (.if_icmp .lt 10, 3) := by decide +kernel
theorem d_T_step_22 : decode b_T_step 22 = .ok (.iload_n 1, 1) := by decide +kernel
theorem d_T_step_23 : decode b_T_step 23 = .ok (.sipush 2000, 3) := by decide +kernel
theorem d_T_step_26 : decode b_T_step 26 = .ok (.if_icmp .le 13, 3) := by decide +kernel
theorem d_T_step_29 : decode b_T_step 29 = .ok (.new 89, 3) := by decide +kernel
theorem d_T_step_32 : decode b_T_step 32 = .ok (.dup, 1) := by decide +kernel
theorem d_T_step_33 : decode b_T_step 33 = .ok (.ldc 91, 2) := by decide +kernel
theorem d_T_step_35 : decode b_T_step 35 = .ok (.invokespecial 93, 3) := by decide +kernel
theorem d_T_step_38 : decode b_T_step 38 = .ok (.athrow, 1) := by decide +kernel
theorem d_T_step_39 : decode b_T_step 39 = .ok (.iconst 0, 1) := by decide +kernel
theorem d_T_step_40 : decode b_T_step 40 = .ok (.istore_n 2, 1) := by decide +kernel
theorem d_T_step_41 : decode b_T_step 41 = .ok (.iload_n 2, 1) := by decide +kernel
theorem d_T_step_42 : decode b_T_step 42 = .ok (.iload_n 1, 1) := by decide +kernel
theorem d_T_step_43 : decode b_T_step 43 = .ok (.if_icmp .ge 20, 3) := by decide +kernel
theorem d_T_step_46 : decode b_T_step 46 = .ok (.aload_n 0, 1) := by decide +kernel
theorem d_T_step_47 : decode b_T_step 47 = .ok (.getfield 79, 3) := by decide +kernel
theorem d_T_step_50 : decode b_T_step 50 = .ok (.ifCond .ne 13, 3) := by decide +kernel
theorem d_T_step_53 : decode b_T_step 53 = .ok (.aload_n 0, 1) := by decide +kernel
theorem d_T_step_54 : decode b_T_step 54 = .ok (.invokevirtual 94, 3) := by decide +kernel
theorem d_T_step_57 : decode b_T_step 57 = .ok (.iinc 2 1, 3) := by decide +kernel
theorem d_T_step_60 : decode b_T_step 60 = .ok (.goto (-19), 3) := by decide +kernel
theorem d_T_step_63 : decode b_T_step 63 = .ok (.iload_n 2, 1) := by decide +kernel
theorem d_T_step_64 : decode b_T_step 64 = .ok (.ireturn, 1) := by decide +kernel
theorem d_T_output_0 : decode b_T_output 0 = .ok (.aload_n 0, 1) := by decide +kernel
theorem d_T_output_1 : decode b_T_output 1 = .ok (.getfield 39, 3) := by decide +kernel
theorem d_T_output_4 : decode b_T_output 4 = .ok (.iload_n 1, 1) := by decide +kernel
theorem d_T_output_5 : decode b_T_output 5 = .ok (.invokevirtual 104, 3) := by decide +kernel
theorem d_T_output_8 : decode b_T_output 8 = .ok (.ifCond .ne 13, 3) := by decide +kernel
theorem d_T_output_11 : decode b_T_output 11 = .ok (.new 107, 3) := by decide +kernel
theorem d_T_output_14 : decode b_T_output 14 = .ok (.dup, 1) := by decide +kernel
theorem d_T_output_15 : decode b_T_output 15 = .ok (.ldc 109, 2) := by decide +kernel
theorem d_T_output_17 : decode b_T_output 17 = .ok (.invokespecial 111, 3) := by decide +kernel
theorem d_T_output_20 : decode b_T_output 20 = .ok (.athrow, 1) := by decide +kernel
theorem d_T_output_21 : decode b_T_output 21 = .ok (.aload_n 0, 1) := by decide +kernel
theorem d_T_output_22 : decode b_T_output 22 = .ok (.getfield 39, 3) := by decide +kernel
theorem d_T_output_25 : decode b_T_output 25 = .ok (.getfield 112, 3) := by decide +kernel
theorem d_T_output_28 : decode b_T_output 28 = .ok (.iload_n 1, 1) := by decide +kernel
theorem d_T_output_29 : decode b_T_output 29 = .ok (.iaload, 1) := by decide +kernel
theorem d_T_output_30 : decode b_T_output 30 = .ok (.ireturn, 1) := by decide +kernel
theorem d_T_perfect_0 : decode b_T_perfect 0 = .ok (.aload_n 0, 1) := by decide +kernel
theorem d_T_perfect_1 : decode b_T_perfect 1 = .ok (.getfield 25, 3) := by decide +kernel
theorem d_T_perfect_4 : decode b_T_perfect 4 = .ok (.getfield 116, 3) := by decide +kernel
theorem d_T_perfect_7 : decode b_T_perfect 7 = .ok (.iload_n 1, 1) := by decide +kernel
theorem d_T_perfect_8 : decode b_T_perfect 8 = .ok (.invokevirtual 104, 3) := by decide +kernel
theorem d_T_perfect_11 : decode b_T_perfect 11 = .ok (.ifCond .ne 13, 3) := by decide +kernel
theorem d_T_perfect_14 : decode b_T_perfect 14 = .ok (.new 107, 3) := by decide +kernel
theorem d_T_perfect_17 : decode b_T_perfect 17 = .ok (.dup, 1) := by decide +kernel
theorem d_T_perfect_18 : decode b_T_perfect 18 = .ok (.ldc 117, 2) := by decide +kernel
theorem d_T_perfect_20 : decode b_T_perfect 20 = .ok (.invokespecial 111, 3) := by decide +kernel
theorem d_T_perfect_23 : decode b_T_perfect 23 = .ok (.athrow, 1) := by decide +kernel
theorem d_T_perfect_24 : decode b_T_perfect 24 = .ok (.aload_n 0, 1) := by decide +kernel
theorem d_T_perfect_25 : decode b_T_perfect 25 = .ok (.getfield 25, 3) := by decide +kernel
theorem d_T_perfect_28 : decode b_T_perfect 28 = .ok (.getfield 116, 3) := by decide +kernel
theorem d_T_perfect_31 : decode b_T_perfect 31 = .ok (.getfield 112, 3) := by decide +kernel
theorem d_T_perfect_34 : decode b_T_perfect 34 = .ok (.iload_n 1, 1) := by decide +kernel
theorem d_T_perfect_35 : decode b_T_perfect 35 = .ok (.iaload, 1) := by decide +kernel
theorem d_T_perfect_36 : decode b_T_perfect 36 = .ok (.ireturn, 1) := by decide +kernel
theorem d_T_flip_0 : decode b_T_flip 0 = .ok (.aload_n 0, 1) := by decide +kernel
theorem d_T_flip_1 : decode b_T_flip 1 = .ok (.iload_n 1, 1) := by decide +kernel
theorem d_T_flip_2 : decode b_T_flip 2 = .ok (.invokevirtual 119, 3) := by decide +kernel
theorem d_T_flip_5 : decode b_T_flip 5 = .ok (.ifCond .eq 13, 3) := by decide +kernel
theorem d_T_flip_8 : decode b_T_flip 8 = .ok (.iload_n 2, 1) := by decide +kernel
theorem d_T_flip_9 : decode b_T_flip 9 = .ok (.iload_n 3, 1) := by decide +kernel
theorem d_T_flip_10 : decode b_T_flip 10 = .ok (.iload 4, 2) := by decide +kernel
theorem d_T_flip_12 : decode b_T_flip 12 = .ok (.invokestatic 122, 3) := by decide +kernel
theorem d_T_flip_15 : decode b_T_flip 15 = .ok (.ifCond .ne 13, 3) := by decide +kernel
theorem d_T_flip_18 : decode b_T_flip 18 = .ok (.new 107, 3) := by decide +kernel
theorem d_T_flip_21 : decode b_T_flip 21 = .ok (.dup, 1) := by decide +kernel
theorem d_T_flip_22 : decode b_T_flip 22 = .ok (.ldc 126, 2) := by decide +kernel
theorem d_T_flip_24 : decode b_T_flip 24 = .ok (.invokespecial 111, 3) := by decide +kernel
theorem d_T_flip_27 : decode b_T_flip 27 = .ok (.athrow, 1) := by decide +kernel
theorem d_T_flip_28 : decode b_T_flip 28 = .ok (.iconst 1, 1) := by decide +kernel
theorem d_T_flip_29 : decode b_T_flip 29 = .ok (.iload 4, 2) := by decide +kernel
theorem d_T_flip_31 : decode b_T_flip 31 = .ok (.ishl, 1) := by decide +kernel
theorem d_T_flip_32 : decode b_T_flip 32 = .ok (.istore 5, 2) := by decide +kernel
theorem d_T_flip_34 : decode b_T_flip 34 = .ok (.iload_n 2, 1) := by decide +kernel
theorem d_T_flip_35 : decode b_T_flip 35 = .ok (.ifCond .ne 22, 3) := by decide +kernel
theorem d_T_flip_38 : decode b_T_flip 38 = .ok (.aload_n 0, 1) := by decide +kernel
theorem d_T_flip_39 : decode b_T_flip 39 = .ok (.getfield 18, 3) := by decide +kernel
theorem d_T_flip_42 : decode b_T_flip 42 = .ok (.iload_n 1, 1) := by decide +kernel
theorem d_T_flip_43 : decode b_T_flip 43 = .ok (.aaload, 1) := by decide +kernel
theorem d_T_flip_44 : decode b_T_flip 44 = .ok (.getfield 128, 3) := by decide +kernel
theorem d_T_flip_47 : decode b_T_flip 47 = .ok (.iload_n 3, 1) := by decide +kernel
theorem d_T_flip_48 : decode b_T_flip 48 = .ok (.dup2, 1) := by decide +kernel
theorem d_T_flip_49 : decode b_T_flip 49 = .ok (.iaload, 1) := by decide +kernel
theorem d_T_flip_50 : decode b_T_flip 50 = .ok (.iload 5, 2) := by decide +kernel
theorem d_T_flip_52 : decode b_T_flip 52 = .ok (.ixor, 1) := by decide +kernel
theorem d_T_flip_53 : decode b_T_flip 53 = .ok (.iastore, 1) := by decide +kernel
theorem d_T_flip_54 : decode b_T_flip 54 = .ok (.goto 55, 3) := by decide +kernel
theorem d_T_flip_57 : decode b_T_flip 57 = .ok (.iload_n 2, 1) := by decide +kernel
theorem d_T_flip_58 : decode b_T_flip 58 = .ok (.iconst 1, 1) := by decide +kernel
theorem d_T_flip_59 : decode b_T_flip 59 = .ok (.if_icmp .ne 22, 3) := by decide +kernel
theorem d_T_flip_62 : decode b_T_flip 62 = .ok (.aload_n 0, 1) := by decide +kernel
theorem d_T_flip_63 : decode b_T_flip 63 = .ok (.getfield 18, 3) := by decide +kernel
theorem d_T_flip_66 : decode b_T_flip 66 = .ok (.iload_n 1, 1) := by decide +kernel
theorem d_T_flip_67 : decode b_T_flip 67 = .ok (.aaload, 1) := by decide +kernel
theorem d_T_flip_68 : decode b_T_flip 68 = .ok (.getfield 131, 3) := by decide +kernel
theorem d_T_flip_71 : decode b_T_flip 71 = .ok (.iload_n 3, 1) := by decide +kernel
theorem d_T_flip_72 : decode b_T_flip 72 = .ok (.dup2, 1) := by decide +kernel
theorem d_T_flip_73 : decode b_T_flip 73 = .ok (.iaload, 1) := by decide +kernel
theorem d_T_flip_74 : decode b_T_flip 74 = .ok (.iload 5, 2) := by decide +kernel
theorem d_T_flip_76 : decode b_T_flip 76 = .ok (.ixor, 1) := by decide +kernel
theorem d_T_flip_77 : decode b_T_flip 77 = .ok (.iastore, 1) := by decide +kernel
theorem d_T_flip_78 : decode b_T_flip 78 = .ok (.goto 31, 3) := by decide +kernel
theorem d_T_flip_81 : decode b_T_flip 81 = .ok (.aload_n 0, 1) := by decide +kernel
theorem d_T_flip_82 : decode b_T_flip 82 = .ok (.getfield 18, 3) := by decide +kernel
theorem d_T_flip_85 : decode b_T_flip 85 = .ok (.iload_n 1, 1) := by decide +kernel
theorem d_T_flip_86 : decode b_T_flip 86 = .ok (.aaload, 1) := by decide +kernel
theorem d_T_flip_87 : decode b_T_flip 87 = .ok (.aload_n 0, 1) := by decide +kernel
theorem d_T_flip_88 : decode b_T_flip 88 = .ok (.getfield 10, 3) := by decide +kernel
theorem d_T_flip_91 : decode b_T_flip 91 = .ok (.aload_n 0, 1) := by decide +kernel
theorem d_T_flip_92 : decode b_T_flip 92 = .ok (.getfield 18, 3) := by decide +kernel
theorem d_T_flip_95 : decode b_T_flip 95 = .ok (.iload_n 1, 1) := by decide +kernel
theorem d_T_flip_96 : decode b_T_flip 96 = .ok (.aaload, 1) := by decide +kernel
theorem d_T_flip_97 : decode b_T_flip 97 = .ok (.getfield 134, 3) := by decide +kernel
theorem d_T_flip_100 : decode b_T_flip 100 = .ok (.iload 5, 2) := by decide +kernel
theorem d_T_flip_102 : decode b_T_flip 102 = .ok (.ixor, 1) := by decide +kernel
theorem d_T_flip_103 : decode b_T_flip 103 = .ok (.invokevirtual 137, 3) := by decide +kernel
theorem d_T_flip_106 : decode b_T_flip 106 = .ok (.putfield 134, 3) := by decide +kernel
theorem d_T_flip_109 : decode b_T_flip 109 = .ok (.return_, 1) := by decide +kernel
theorem d_T_program_0 : decode b_T_program 0 = .ok (.aload_n 0, 1) := by decide +kernel
theorem d_T_program_1 : decode b_T_program 1 = .ok (.getfield 44, 3) := by decide +kernel
theorem d_T_program_4 : decode b_T_program 4 = .ok (.ifCond .ne 19, 3) := by decide +kernel
theorem d_T_program_7 : decode b_T_program 7 = .ok (.aload_n 0, 1) := by decide +kernel
theorem d_T_program_8 : decode b_T_program 8 = .ok (.getfield 10, 3) := by decide +kernel
theorem d_T_program_11 : decode b_T_program 11 = .ok (.iload_n 1, 1) := by decide +kernel
theorem d_T_program_12 : decode b_T_program 12 = .ok (.iload_n 2, 1) := by decide +kernel
theorem d_T_program_13 : decode b_T_program 13 = .ok (.invokevirtual 48, 3) := by decide +kernel
theorem d_T_program_16 : decode b_T_program 16 = .ok (.ifCond .eq 7, 3) := by decide +kernel
theorem d_T_program_19 : decode b_T_program 19 = .ok (.iconst 1, 1) := by decide +kernel
theorem d_T_program_20 : decode b_T_program 20 = .ok (.goto 4, 3) := by decide +kernel
theorem d_T_program_23 : decode b_T_program 23 = .ok (.iconst 0, 1) := by decide +kernel
theorem d_T_program_24 : decode b_T_program 24 = .ok (.ireturn, 1) := by decide +kernel
theorem d_T_allow_0 : decode b_T_allow 0 = .ok (.aload_n 0, 1) := by decide +kernel
theorem d_T_allow_1 : decode b_T_allow 1 = .ok (.iload_n 1, 1) := by decide +kernel
theorem d_T_allow_2 : decode b_T_allow 2 = .ok (.putfield 76, 3) := by decide +kernel
theorem d_T_allow_5 : decode b_T_allow 5 = .ok (.return_, 1) := by decide +kernel
theorem d_T_state_0 : decode b_T_state 0 = .ok (.iload_n 1, 1) := by decide +kernel
theorem d_T_state_1 : decode b_T_state 1 = .ok (.tableswitch 103 0 6 #[43, 48, 53, 58, 66, 77, 90], 43) := by decide +kernel
theorem d_T_state_44 : decode b_T_state 44 = .ok (.aload_n 0, 1) := by decide +kernel
theorem d_T_state_45 : decode b_T_state 45 = .ok (.invokevirtual 169, 3) := by decide +kernel
theorem d_T_state_48 : decode b_T_state 48 = .ok (.ireturn, 1) := by decide +kernel
theorem d_T_state_49 : decode b_T_state 49 = .ok (.aload_n 0, 1) := by decide +kernel
theorem d_T_state_50 : decode b_T_state 50 = .ok (.getfield 70, 3) := by decide +kernel
theorem d_T_state_53 : decode b_T_state 53 = .ok (.ireturn, 1) := by decide +kernel
theorem d_T_state_54 : decode b_T_state 54 = .ok (.aload_n 0, 1) := by decide +kernel
theorem d_T_state_55 : decode b_T_state 55 = .ok (.getfield 73, 3) := by decide +kernel
theorem d_T_state_58 : decode b_T_state 58 = .ok (.ireturn, 1) := by decide +kernel
theorem d_T_state_59 : decode b_T_state 59 = .ok (.aload_n 0, 1) := by decide +kernel
theorem d_T_state_60 : decode b_T_state 60 = .ok (.getfield 39, 3) := by decide +kernel
theorem d_T_state_63 : decode b_T_state 63 = .ok (.getfield 172, 3) := by decide +kernel
theorem d_T_state_66 : decode b_T_state 66 = .ok (.ireturn, 1) := by decide +kernel
theorem d_T_state_67 : decode b_T_state 67 = .ok (.aload_n 0, 1) := by decide +kernel
theorem d_T_state_68 : decode b_T_state 68 = .ok (.getfield 25, 3) := by decide +kernel
theorem d_T_state_71 : decode b_T_state 71 = .ok (.getfield 116, 3) := by decide +kernel
theorem d_T_state_74 : decode b_T_state 74 = .ok (.getfield 172, 3) := by decide +kernel
theorem d_T_state_77 : decode b_T_state 77 = .ok (.ireturn, 1) := by decide +kernel
theorem d_T_state_78 : decode b_T_state 78 = .ok (.aload_n 0, 1) := by decide +kernel
theorem d_T_state_79 : decode b_T_state 79 = .ok (.getfield 32, 3) := by decide +kernel
theorem d_T_state_82 : decode b_T_state 82 = .ok (.getfield 175, 3) := by decide +kernel
theorem d_T_state_85 : decode b_T_state 85 = .ok (.aload_n 0, 1) := by decide +kernel
theorem d_T_state_86 : decode b_T_state 86 = .ok (.getfield 66, 3) := by decide +kernel
theorem d_T_state_89 : decode b_T_state 89 = .ok (.isub, 1) := by decide +kernel
theorem d_T_state_90 : decode b_T_state 90 = .ok (.ireturn, 1) := by decide +kernel
theorem d_T_state_91 : decode b_T_state 91 = .ok (.aload_n 0, 1) := by decide +kernel
theorem d_T_state_92 : decode b_T_state 92 = .ok (.getfield 76, 3) := by decide +kernel
theorem d_T_state_95 : decode b_T_state 95 = .ok (.ifCond .eq 7, 3) := by decide +kernel
theorem d_T_state_98 : decode b_T_state 98 = .ok (.iconst 1, 1) := by decide +kernel
theorem d_T_state_99 : decode b_T_state 99 = .ok (.goto 4, 3) := by decide +kernel
theorem d_T_state_102 : decode b_T_state 102 = .ok (.iconst 0, 1) := by decide +kernel
theorem d_T_state_103 : decode b_T_state 103 = .ok (.ireturn, 1) := by decide +kernel
theorem d_T_state_104 : decode b_T_state 104 = .ok (.iconst (-1), 1) := by decide +kernel
theorem d_T_state_105 : decode b_T_state 105 = .ok (.ireturn, 1) := by decide +kernel
theorem d_M_init_0 : decode b_M_init 0 = .ok (.aload_n 0, 1) := by decide +kernel
theorem d_M_init_1 : decode b_M_init 1 = .ok (.invokespecial 1, 3) := by decide +kernel
theorem d_M_init_4 : decode b_M_init 4 = .ok (.aload_n 0, 1) := by decide +kernel
theorem d_M_init_5 : decode b_M_init 5 = .ok (.bipush 64, 2) := by decide +kernel
theorem d_M_init_7 : decode b_M_init 7 = .ok (.newarray .int, 2) := by decide +kernel
theorem d_M_init_9 : decode b_M_init 9 = .ok (.putfield 7, 3) := by decide +kernel
theorem d_M_init_12 : decode b_M_init 12 = .ok (.aload_n 0, 1) := by decide +kernel
theorem d_M_init_13 : decode b_M_init 13 = .ok (.bipush 24, 2) := by decide +kernel
theorem d_M_init_15 : decode b_M_init 15 = .ok (.newarray .int, 2) := by decide +kernel
theorem d_M_init_17 : decode b_M_init 17 = .ok (.putfield 13, 3) := by decide +kernel
theorem d_M_init_20 : decode b_M_init 20 = .ok (.aload_n 0, 1) := by decide +kernel
theorem d_M_init_21 : decode b_M_init 21 = .ok (.bipush 96, 2) := by decide +kernel
theorem d_M_init_23 : decode b_M_init 23 = .ok (.newarray .int, 2) := by decide +kernel
theorem d_M_init_25 : decode b_M_init 25 = .ok (.putfield 16, 3) := by decide +kernel
theorem d_M_init_28 : decode b_M_init 28 = .ok (.aload_n 0, 1) := by decide +kernel
theorem d_M_init_29 : decode b_M_init 29 = .ok (.iconst 3, 1) := by decide +kernel
theorem d_M_init_30 : decode b_M_init 30 = .ok (.newarray .int, 2) := by decide +kernel
theorem d_M_init_32 : decode b_M_init 32 = .ok (.putfield 19, 3) := by decide +kernel
theorem d_M_init_35 : decode b_M_init 35 = .ok (.aload_n 0, 1) := by decide +kernel
theorem d_M_init_36 : decode b_M_init 36 = .ok (.iconst 3, 1) := by decide +kernel
theorem d_M_init_37 : decode b_M_init 37 = .ok (.newarray .int, 2) := by decide +kernel
theorem d_M_init_39 : decode b_M_init 39 = .ok (.putfield 22, 3) := by decide +kernel
theorem d_M_init_42 : decode b_M_init 42 = .ok (.aload_n 0, 1) := by decide +kernel
theorem d_M_init_43 : decode b_M_init 43 = .ok (.iconst 3, 1) := by decide +kernel
theorem d_M_init_44 : decode b_M_init 44 = .ok (.newarray .int, 2) := by decide +kernel
theorem d_M_init_46 : decode b_M_init 46 = .ok (.putfield 25, 3) := by decide +kernel
theorem d_M_init_49 : decode b_M_init 49 = .ok (.aload_n 0, 1) := by decide +kernel
theorem d_M_init_50 : decode b_M_init 50 = .ok (.iconst 3, 1) := by decide +kernel
theorem d_M_init_51 : decode b_M_init 51 = .ok (.newarray .int, 2) := by decide +kernel
theorem d_M_init_53 : decode b_M_init 53 = .ok (.putfield 28, 3) := by decide +kernel
theorem d_M_init_56 : decode b_M_init 56 = .ok (.aload_n 0, 1) := by decide +kernel
theorem d_M_init_57 : decode b_M_init 57 = .ok (.iconst 3, 1) := by decide +kernel
theorem d_M_init_58 : decode b_M_init 58 = .ok (.newarray .boolean, 2) := by decide +kernel
theorem d_M_init_60 : decode b_M_init 60 = .ok (.putfield 31, 3) := by decide +kernel
theorem d_M_init_63 : decode b_M_init 63 = .ok (.aload_n 0, 1) := by decide +kernel
theorem d_M_init_64 : decode b_M_init 64 = .ok (.iconst 3, 1) := by decide +kernel
theorem d_M_init_65 : decode b_M_init 65 = .ok (.newarray .boolean, 2) := by decide +kernel
theorem d_M_init_67 : decode b_M_init 67 = .ok (.putfield 35, 3) := by decide +kernel
theorem d_M_init_70 : decode b_M_init 70 = .ok (.aload_n 0, 1) := by decide +kernel
theorem d_M_init_71 : decode b_M_init 71 = .ok (.iconst 3, 1) := by decide +kernel
theorem d_M_init_72 : decode b_M_init 72 = .ok (.newarray .int, 2) := by decide +kernel
theorem d_M_init_74 : decode b_M_init 74 = .ok (.putfield 38, 3) := by decide +kernel
theorem d_M_init_77 : decode b_M_init 77 = .ok (.aload_n 0, 1) := by decide +kernel
theorem d_M_init_78 : decode b_M_init 78 = .ok (.iconst 3, 1) := by decide +kernel
theorem d_M_init_79 : decode b_M_init 79 = .ok (.newarray .int, 2) := by decide +kernel
theorem d_M_init_81 : decode b_M_init 81 = .ok (.putfield 41, 3) := by decide +kernel
theorem d_M_init_84 : decode b_M_init 84 = .ok (.aload_n 0, 1) := by decide +kernel
theorem d_M_init_85 : decode b_M_init 85 = .ok (.iconst 3, 1) := by decide +kernel
theorem d_M_init_86 : decode b_M_init 86 = .ok (.newarray .int, 2) := by decide +kernel
theorem d_M_init_88 : decode b_M_init 88 = .ok (.putfield 44, 3) := by decide +kernel
theorem d_M_init_91 : decode b_M_init 91 = .ok (.aload_n 0, 1) := by decide +kernel
theorem d_M_init_92 : decode b_M_init 92 = .ok (.iconst 3, 1) := by decide +kernel
theorem d_M_init_93 : decode b_M_init 93 = .ok (.newarray .boolean, 2) := by decide +kernel
theorem d_M_init_95 : decode b_M_init 95 = .ok (.putfield 47, 3) := by decide +kernel
theorem d_M_init_98 : decode b_M_init 98 = .ok (.aload_n 0, 1) := by decide +kernel
theorem d_M_init_99 : decode b_M_init 99 = .ok (.iconst 3, 1) := by decide +kernel
theorem d_M_init_100 : decode b_M_init 100 = .ok (.newarray .int, 2) := by decide +kernel
theorem d_M_init_102 : decode b_M_init 102 = .ok (.putfield 50, 3) := by decide +kernel
theorem d_M_init_105 : decode b_M_init 105 = .ok (.aload_n 0, 1) := by decide +kernel
theorem d_M_init_106 : decode b_M_init 106 = .ok (.iconst 3, 1) := by decide +kernel
theorem d_M_init_107 : decode b_M_init 107 = .ok (.newarray .int, 2) := by decide +kernel
theorem d_M_init_109 : decode b_M_init 109 = .ok (.putfield 53, 3) := by decide +kernel
theorem d_M_init_112 : decode b_M_init 112 = .ok (.aload_n 0, 1) := by decide +kernel
theorem d_M_init_113 : decode b_M_init 113 = .ok (.iconst 3, 1) := by decide +kernel
theorem d_M_init_114 : decode b_M_init 114 = .ok (.newarray .int, 2) := by decide +kernel
theorem d_M_init_116 : decode b_M_init 116 = .ok (.putfield 56, 3) := by decide +kernel
theorem d_M_init_119 : decode b_M_init 119 = .ok (.aload_n 0, 1) := by decide +kernel
theorem d_M_init_120 : decode b_M_init 120 = .ok (.iconst 3, 1) := by decide +kernel
theorem d_M_init_121 : decode b_M_init 121 = .ok (.newarray .boolean, 2) := by decide +kernel
theorem d_M_init_123 : decode b_M_init 123 = .ok (.putfield 59, 3) := by decide +kernel
theorem d_M_init_126 : decode b_M_init 126 = .ok (.aload_n 0, 1) := by decide +kernel
theorem d_M_init_127 : decode b_M_init 127 = .ok (.bipush 64, 2) := by decide +kernel
theorem d_M_init_129 : decode b_M_init 129 = .ok (.newarray .int, 2) := by decide +kernel
theorem d_M_init_131 : decode b_M_init 131 = .ok (.putfield 62, 3) := by decide +kernel
theorem d_M_init_134 : decode b_M_init 134 = .ok (.aload_n 0, 1) := by decide +kernel
theorem d_M_init_135 : decode b_M_init 135 = .ok (.sipush 300, 3) := by decide +kernel
theorem d_M_init_138 : decode b_M_init 138 = .ok (.newarray .int, 2) := by decide +kernel
theorem d_M_init_140 : decode b_M_init 140 = .ok (.putfield 65, 3) := by decide +kernel
theorem d_M_init_143 : decode b_M_init 143 = .ok (.aload_n 0, 1) := by decide +kernel
theorem d_M_init_144 : decode b_M_init 144 = .ok (.bipush 8, 2) := by decide +kernel
theorem d_M_init_146 : decode b_M_init 146 = .ok (.newarray .int, 2) := by decide +kernel
theorem d_M_init_148 : decode b_M_init 148 = .ok (.putfield 68, 3) := by decide +kernel
theorem d_M_init_151 : decode b_M_init 151 = .ok (.aload_n 0, 1) := by decide +kernel
theorem d_M_init_152 : decode b_M_init 152 = .ok (.bipush 32, 2) := by decide +kernel
theorem d_M_init_154 : decode b_M_init 154 = .ok (.newarray .int, 2) := by decide +kernel
theorem d_M_init_156 : decode b_M_init 156 = .ok (.putfield 71, 3) := by decide +kernel
theorem d_M_init_159 : decode b_M_init 159 = .ok (.aload_n 0, 1) := by decide +kernel
theorem d_M_init_160 : decode b_M_init 160 = .ok (.sipush 300, 3) := by decide +kernel
theorem d_M_init_163 : decode b_M_init 163 = .ok (.newarray .int, 2) := by decide +kernel
theorem d_M_init_165 : decode b_M_init 165 = .ok (.putfield 74, 3) := by decide +kernel
theorem d_M_init_168 : decode b_M_init 168 = .ok (.return_, 1) := by decide +kernel
theorem d_M_op_0 : decode b_M_op 0 = .ok (.iload_n 0, 1) := by decide +kernel
theorem d_M_op_1 : decode b_M_op 1 = .ok (.bipush 24, 2) := by decide +kernel
theorem d_M_op_3 : decode b_M_op 3 = .ok (.iushr, 1) := by decide +kernel
theorem d_M_op_4 : decode b_M_op 4 = .ok (.ireturn, 1) := by decide +kernel
theorem d_M_part_0 : decode b_M_part 0 = .ok (.iload_n 0, 1) := by decide +kernel
theorem d_M_part_1 : decode b_M_part 1 = .ok (.bipush 16, 2) := by decide +kernel
theorem d_M_part_3 : decode b_M_part 3 = .ok (.bipush 8, 2) := by decide +kernel
theorem d_M_part_5 : decode b_M_part 5 = .ok (.iload_n 1, 1) := by decide +kernel
theorem d_M_part_6 : decode b_M_part 6 = .ok (.imul, 1) := by decide +kernel
theorem d_M_part_7 : decode b_M_part 7 = .ok (.isub, 1) := by decide +kernel
theorem d_M_part_8 : decode b_M_part 8 = .ok (.iushr, 1) := by decide +kernel
theorem d_M_part_9 : decode b_M_part 9 = .ok (.sipush 255, 3) := by decide +kernel
theorem d_M_part_12 : decode b_M_part 12 = .ok (.iand, 1) := by decide +kernel
theorem d_M_part_13 : decode b_M_part 13 = .ok (.ireturn, 1) := by decide +kernel
theorem d_M_isRight_0 : decode b_M_isRight 0 = .ok (.iload_n 0, 1) := by decide +kernel
theorem d_M_isRight_1 : decode b_M_isRight 1 = .ok (.iconst 0, 1) := by decide +kernel
theorem d_M_isRight_2 : decode b_M_isRight 2 = .ok (.invokestatic 81, 3) := by decide +kernel
theorem d_M_isRight_5 : decode b_M_isRight 5 = .ok (.istore_n 1, 1) := by decide +kernel
theorem d_M_isRight_6 : decode b_M_isRight 6 = .ok (.iload_n 0, 1) := by decide +kernel
theorem d_M_isRight_7 : decode b_M_isRight 7 = .ok (.iconst 1, 1) := by decide +kernel
theorem d_M_isRight_8 : decode b_M_isRight 8 = .ok (.invokestatic 81, 3) := by decide +kernel
theorem d_M_isRight_11 : decode b_M_isRight 11 = .ok (.istore_n 2, 1) := by decide +kernel
theorem d_M_isRight_12 : decode b_M_isRight 12 = .ok (.iload_n 0, 1) := by decide +kernel
theorem d_M_isRight_13 : decode b_M_isRight 13 = .ok (.iconst 2, 1) := by decide +kernel
theorem d_M_isRight_14 : decode b_M_isRight 14 = .ok (.invokestatic 81, 3) := by decide +kernel
theorem d_M_isRight_17 : decode b_M_isRight 17 = .ok (.istore_n 3, 1) := by decide +kernel
theorem d_M_isRight_18 : decode b_M_isRight 18 = .ok (.iload_n 0, 1) := by decide +kernel
theorem d_M_isRight_19 : decode b_M_isRight 19 = .ok (.invokestatic 85, 3) := by decide +kernel
theorem d_M_isRight_22 : decode b_M_isRight 22 = .ok (.tableswitch 114 0 10 #[58, 70, 70, 70, 70, 94, 94, 58, 112, 58, 58], 58) := by decide +kernel
theorem d_M_isRight_80 : decode b_M_isRight 80 = .ok (.iload_n 1, 1) := by decide +kernel
theorem d_M_isRight_81 : decode b_M_isRight 81 = .ok (.bipush 8, 2) := by decide +kernel
theorem d_M_isRight_83 : decode b_M_isRight 83 = .ok (.if_icmp .ge 7, 3) := by decide +kernel
theorem d_M_isRight_86 : decode b_M_isRight 86 = .ok (.iconst 1, 1) := by decide +kernel
theorem d_M_isRight_87 : decode b_M_isRight 87 = .ok (.goto 4, 3) := by decide +kernel
theorem d_M_isRight_90 : decode b_M_isRight 90 = .ok (.iconst 0, 1) := by decide +kernel
theorem d_M_isRight_91 : decode b_M_isRight 91 = .ok (.ireturn, 1) := by decide +kernel
theorem d_M_isRight_92 : decode b_M_isRight 92 = .ok (.iload_n 1, 1) := by decide +kernel
theorem d_M_isRight_93 : decode b_M_isRight 93 = .ok (.bipush 8, 2) := by decide +kernel
theorem d_M_isRight_95 : decode b_M_isRight 95 = .ok (.if_icmp .ge 19, 3) := by decide +kernel
theorem d_M_isRight_98 : decode b_M_isRight 98 = .ok (.iload_n 2, 1) := by decide +kernel
theorem d_M_isRight_99 : decode b_M_isRight 99 = .ok (.bipush 8, 2) := by decide +kernel
theorem d_M_isRight_101 : decode b_M_isRight 101 = .ok (.if_icmp .ge 13, 3) := by decide +kernel
theorem d_M_isRight_104 : decode b_M_isRight 104 = .ok (.iload_n 3, 1) := by decide +kernel
theorem d_M_isRight_105 : decode b_M_isRight 105 = .ok (.bipush 8, 2) := by decide +kernel
theorem d_M_isRight_107 : decode b_M_isRight 107 = .ok (.if_icmp .ge 7, 3) := by decide +kernel
theorem d_M_isRight_110 : decode b_M_isRight 110 = .ok (.iconst 1, 1) := by decide +kernel
theorem d_M_isRight_111 : decode b_M_isRight 111 = .ok (.goto 4, 3) := by decide +kernel
theorem d_M_isRight_114 : decode b_M_isRight 114 = .ok (.iconst 0, 1) := by decide +kernel
theorem d_M_isRight_115 : decode b_M_isRight 115 = .ok (.ireturn, 1) := by decide +kernel
theorem d_M_isRight_116 : decode b_M_isRight 116 = .ok (.iload_n 1, 1) := by decide +kernel
theorem d_M_isRight_117 : decode b_M_isRight 117 = .ok (.bipush 8, 2) := by decide +kernel
theorem d_M_isRight_119 : decode b_M_isRight 119 = .ok (.if_icmp .ge 13, 3) := by decide +kernel
theorem d_M_isRight_122 : decode b_M_isRight 122 = .ok (.iload_n 2, 1) := by decide +kernel
theorem d_M_isRight_123 : decode b_M_isRight 123 = .ok (.bipush 8, 2) := by decide +kernel
theorem d_M_isRight_125 : decode b_M_isRight 125 = .ok (.if_icmp .ge 7, 3) := by decide +kernel
theorem d_M_isRight_128 : decode b_M_isRight 128 = .ok (.iconst 1, 1) := by decide +kernel
theorem d_M_isRight_129 : decode b_M_isRight 129 = .ok (.goto 4, 3) := by decide +kernel
theorem d_M_isRight_132 : decode b_M_isRight 132 = .ok (.iconst 0, 1) := by decide +kernel
theorem d_M_isRight_133 : decode b_M_isRight 133 = .ok (.ireturn, 1) := by decide +kernel
theorem d_M_isRight_134 : decode b_M_isRight 134 = .ok (.iconst 1, 1) := by decide +kernel
theorem d_M_isRight_135 : decode b_M_isRight 135 = .ok (.ireturn, 1) := by decide +kernel
theorem d_M_isRight_136 : decode b_M_isRight 136 = .ok (.iconst 0, 1) := by decide +kernel
theorem d_M_isRight_137 : decode b_M_isRight 137 = .ok (.ireturn, 1) := by decide +kernel
theorem d_M_program_0 : decode b_M_program 0 = .ok (.aload_n 0, 1) := by decide +kernel
theorem d_M_program_1 : decode b_M_program 1 = .ok (.iconst 0, 1) := by decide +kernel
theorem d_M_program_2 : decode b_M_program 2 = .ok (.putfield 77, 3) := by decide +kernel
theorem d_M_program_5 : decode b_M_program 5 = .ok (.aload_n 0, 1) := by decide +kernel
theorem d_M_program_6 : decode b_M_program 6 = .ok (.getfield 89, 3) := by decide +kernel
theorem d_M_program_9 : decode b_M_program 9 = .ok (.ifCond .ne 28, 3) := by decide +kernel
theorem d_M_program_12 : decode b_M_program 12 = .ok (.iload_n 1, 1) := by decide +kernel
theorem d_M_program_13 : decode b_M_program 13 = .ok (.ifCond .lt 24, 3) := by decide +kernel
theorem d_M_program_16 : decode b_M_program 16 = .ok (.iload_n 1, 1) := by decide +kernel
theorem d_M_program_17 : decode b_M_program 17 = .ok (.aload_n 0, 1) := by decide +kernel
theorem d_M_program_18 : decode b_M_program 18 = .ok (.getfield 93, 3) := by decide +kernel
theorem d_M_program_21 : decode b_M_program 21 = .ok (.if_icmp .gt 16, 3) := by decide +kernel
theorem d_M_program_24 : decode b_M_program 24 = .ok (.iload_n 1, 1) := by decide +kernel
theorem d_M_program_25 : decode b_M_program 25 = .ok (.bipush 63, 2) := by decide +kernel
theorem d_M_program_27 : decode b_M_program 27 = .ok (.if_icmp .gt 10, 3) := by decide +kernel
theorem d_M_program_30 : decode b_M_program 30 = .ok (.iload_n 2, 1) := by decide +kernel
theorem d_M_program_31 : decode b_M_program 31 = .ok (.invokestatic 96, 3) := by decide +kernel
theorem d_M_program_34 : decode b_M_program 34 = .ok (.ifCond .ne 5, 3) := by decide +kernel
theorem d_M_program_37 : decode b_M_program 37 = .ok (.iconst 0, 1) := by decide +kernel
theorem d_M_program_38 : decode b_M_program 38 = .ok (.ireturn, 1) := by decide +kernel
theorem d_M_program_39 : decode b_M_program 39 = .ok (.aload_n 0, 1) := by decide +kernel
theorem d_M_program_40 : decode b_M_program 40 = .ok (.getfield 7, 3) := by decide +kernel
theorem d_M_program_43 : decode b_M_program 43 = .ok (.iload_n 1, 1) := by decide +kernel
theorem d_M_program_44 : decode b_M_program 44 = .ok (.iload_n 2, 1) := by decide +kernel
theorem d_M_program_45 : decode b_M_program 45 = .ok (.iastore, 1) := by decide +kernel
theorem d_M_program_46 : decode b_M_program 46 = .ok (.iload_n 1, 1) := by decide +kernel
theorem d_M_program_47 : decode b_M_program 47 = .ok (.aload_n 0, 1) := by decide +kernel
theorem d_M_program_48 : decode b_M_program 48 = .ok (.getfield 93, 3) := by decide +kernel
theorem d_M_program_51 : decode b_M_program 51 = .ok (.if_icmp .ne 13, 3) := by decide +kernel
theorem d_M_program_54 : decode b_M_program 54 = .ok (.aload_n 0, 1) := by decide +kernel
theorem d_M_program_55 : decode b_M_program 55 = .ok (.dup, 1) := by decide +kernel
theorem d_M_program_56 : decode b_M_program 56 = .ok (.getfield 93, 3) := by decide +kernel
theorem d_M_program_59 : decode b_M_program 59 = .ok (.iconst 1, 1) := by decide +kernel
theorem d_M_program_60 : decode b_M_program 60 = .ok (.iadd, 1) := by decide +kernel
theorem d_M_program_61 : decode b_M_program 61 = .ok (.putfield 93, 3) := by decide +kernel
theorem d_M_program_64 : decode b_M_program 64 = .ok (.iconst 1, 1) := by decide +kernel
theorem d_M_program_65 : decode b_M_program 65 = .ok (.ireturn, 1) := by decide +kernel
theorem d_M_canStart_0 : decode b_M_canStart 0 = .ok (.iconst 0, 1) := by decide +kernel
theorem d_M_canStart_1 : decode b_M_canStart 1 = .ok (.istore_n 1, 1) := by decide +kernel
theorem d_M_canStart_2 : decode b_M_canStart 2 = .ok (.iload_n 1, 1) := by decide +kernel
theorem d_M_canStart_3 : decode b_M_canStart 3 = .ok (.aload_n 0, 1) := by decide +kernel
theorem d_M_canStart_4 : decode b_M_canStart 4 = .ok (.getfield 93, 3) := by decide +kernel
theorem d_M_canStart_7 : decode b_M_canStart 7 = .ok (.if_icmp .ge 67, 3) := by decide +kernel
theorem d_M_canStart_10 : decode b_M_canStart 10 = .ok (.aload_n 0, 1) := by decide +kernel
theorem d_M_canStart_11 : decode b_M_canStart 11 = .ok (.getfield 7, 3) := by decide +kernel
theorem d_M_canStart_14 : decode b_M_canStart 14 = .ok (.iload_n 1, 1) := by decide +kernel
theorem d_M_canStart_15 : decode b_M_canStart 15 = .ok (.iaload, 1) := by decide +kernel
theorem d_M_canStart_16 : decode b_M_canStart 16 = .ok (.invokestatic 85, 3) := by decide +kernel
theorem d_M_canStart_19 : decode b_M_canStart 19 = .ok (.istore_n 2, 1) := by decide +kernel
theorem d_M_canStart_20 : decode b_M_canStart 20 = .ok (.iload_n 2, 1) := by decide +kernel
theorem d_M_canStart_21 : decode b_M_canStart 21 = .ok (.bipush 7, 2) := by decide +kernel
theorem d_M_canStart_23 : decode b_M_canStart 23 = .ok (.if_icmp .ne 20, 3) := by decide +kernel
theorem d_M_canStart_26 : decode b_M_canStart 26 = .ok (.aload_n 0, 1) := by decide +kernel
theorem d_M_canStart_27 : decode b_M_canStart 27 = .ok (.getfield 7, 3) := by decide +kernel
theorem d_M_canStart_30 : decode b_M_canStart 30 = .ok (.iload_n 1, 1) := by decide +kernel
theorem d_M_canStart_31 : decode b_M_canStart 31 = .ok (.iaload, 1) := by decide +kernel
theorem d_M_canStart_32 : decode b_M_canStart 32 = .ok (.iconst 1, 1) := by decide +kernel
theorem d_M_canStart_33 : decode b_M_canStart 33 = .ok (.invokestatic 81, 3) := by decide +kernel
theorem d_M_canStart_36 : decode b_M_canStart 36 = .ok (.aload_n 0, 1) := by decide +kernel
theorem d_M_canStart_37 : decode b_M_canStart 37 = .ok (.getfield 93, 3) := by decide +kernel
theorem d_M_canStart_40 : decode b_M_canStart 40 = .ok (.if_icmp .ge 26, 3) := by decide +kernel
theorem d_M_canStart_43 : decode b_M_canStart 43 = .ok (.iload_n 2, 1) := by decide +kernel
theorem d_M_canStart_44 : decode b_M_canStart 44 = .ok (.bipush 8, 2) := by decide +kernel
theorem d_M_canStart_46 : decode b_M_canStart 46 = .ok (.if_icmp .ne 22, 3) := by decide +kernel
theorem d_M_canStart_49 : decode b_M_canStart 49 = .ok (.aload_n 0, 1) := by decide +kernel
theorem d_M_canStart_50 : decode b_M_canStart 50 = .ok (.getfield 7, 3) := by decide +kernel
theorem d_M_canStart_53 : decode b_M_canStart 53 = .ok (.iload_n 1, 1) := by decide +kernel
theorem d_M_canStart_54 : decode b_M_canStart 54 = .ok (.iaload, 1) := by decide +kernel
theorem d_M_canStart_55 : decode b_M_canStart 55 = .ok (.iconst 1, 1) := by decide +kernel
theorem d_M_canStart_56 : decode b_M_canStart 56 = .ok (.invokestatic 81, 3) := by decide +kernel
theorem d_M_canStart_59 : decode b_M_canStart 59 = .ok (.aload_n 0, 1) := by decide +kernel
theorem d_M_canStart_60 : decode b_M_canStart 60 = .ok (.getfield 93, 3) := by decide +kernel
theorem d_M_canStart_63 : decode b_M_canStart 63 = .ok (.if_icmp .lt 5, 3) := by decide +kernel
theorem d_M_canStart_66 : decode b_M_canStart 66 = .ok (.iconst 0, 1) := by decide +kernel
theorem d_M_canStart_67 : decode b_M_canStart 67 = .ok (.ireturn, 1) := by decide +kernel
theorem d_M_canStart_68 : decode b_M_canStart 68 = .ok (.iinc 1 1, 3) := by decide +kernel
theorem d_M_canStart_71 : decode b_M_canStart 71 = .ok (.goto (-69), 3) := by decide +kernel
theorem d_M_canStart_74 : decode b_M_canStart 74 = .ok (.aload_n 0, 1) := by decide +kernel
theorem d_M_canStart_75 : decode b_M_canStart 75 = .ok (.getfield 93, 3) := by decide +kernel
theorem d_M_canStart_78 : decode b_M_canStart 78 = .ok (.ifCond .le 7, 3) := by decide +kernel
theorem d_M_canStart_81 : decode b_M_canStart 81 = .ok (.iconst 1, 1) := by decide +kernel
theorem d_M_canStart_82 : decode b_M_canStart 82 = .ok (.goto 4, 3) := by decide +kernel
theorem d_M_canStart_85 : decode b_M_canStart 85 = .ok (.iconst 0, 1) := by decide +kernel
theorem d_M_canStart_86 : decode b_M_canStart 86 = .ok (.ireturn, 1) := by decide +kernel
theorem d_M_start_0 : decode b_M_start 0 = .ok (.aload_n 0, 1) := by decide +kernel
theorem d_M_start_1 : decode b_M_start 1 = .ok (.iconst 0, 1) := by decide +kernel
theorem d_M_start_2 : decode b_M_start 2 = .ok (.putfield 77, 3) := by decide +kernel
theorem d_M_start_5 : decode b_M_start 5 = .ok (.aload_n 0, 1) := by decide +kernel
theorem d_M_start_6 : decode b_M_start 6 = .ok (.invokevirtual 118, 3) := by decide +kernel
theorem d_M_start_9 : decode b_M_start 9 = .ok (.ifCond .ne 5, 3) := by decide +kernel
theorem d_M_start_12 : decode b_M_start 12 = .ok (.iconst 0, 1) := by decide +kernel
theorem d_M_start_13 : decode b_M_start 13 = .ok (.ireturn, 1) := by decide +kernel
theorem d_M_start_14 : decode b_M_start 14 = .ok (.aload_n 0, 1) := by decide +kernel
theorem d_M_start_15 : decode b_M_start 15 = .ok (.iconst 1, 1) := by decide +kernel
theorem d_M_start_16 : decode b_M_start 16 = .ok (.putfield 89, 3) := by decide +kernel
theorem d_M_start_19 : decode b_M_start 19 = .ok (.aload_n 0, 1) := by decide +kernel
theorem d_M_start_20 : decode b_M_start 20 = .ok (.iconst 0, 1) := by decide +kernel
theorem d_M_start_21 : decode b_M_start 21 = .ok (.putfield 122, 3) := by decide +kernel
theorem d_M_start_24 : decode b_M_start 24 = .ok (.aload_n 0, 1) := by decide +kernel
theorem d_M_start_25 : decode b_M_start 25 = .ok (.iconst 0, 1) := by decide +kernel
theorem d_M_start_26 : decode b_M_start 26 = .ok (.putfield 125, 3) := by decide +kernel
theorem d_M_start_29 : decode b_M_start 29 = .ok (.aload_n 0, 1) := by decide +kernel
theorem d_M_start_30 : decode b_M_start 30 = .ok (.iconst 0, 1) := by decide +kernel
theorem d_M_start_31 : decode b_M_start 31 = .ok (.putfield 128, 3) := by decide +kernel
theorem d_M_start_34 : decode b_M_start 34 = .ok (.aload_n 0, 1) := by decide +kernel
theorem d_M_start_35 : decode b_M_start 35 = .ok (.iconst 0, 1) := by decide +kernel
theorem d_M_start_36 : decode b_M_start 36 = .ok (.putfield 131, 3) := by decide +kernel
theorem d_M_start_39 : decode b_M_start 39 = .ok (.aload_n 0, 1) := by decide +kernel
theorem d_M_start_40 : decode b_M_start 40 = .ok (.iconst 0, 1) := by decide +kernel
theorem d_M_start_41 : decode b_M_start 41 = .ok (.putfield 134, 3) := by decide +kernel
theorem d_M_start_44 : decode b_M_start 44 = .ok (.aload_n 0, 1) := by decide +kernel
theorem d_M_start_45 : decode b_M_start 45 = .ok (.iconst 0, 1) := by decide +kernel
theorem d_M_start_46 : decode b_M_start 46 = .ok (.putfield 137, 3) := by decide +kernel
theorem d_M_start_49 : decode b_M_start 49 = .ok (.aload_n 0, 1) := by decide +kernel
theorem d_M_start_50 : decode b_M_start 50 = .ok (.iconst 0, 1) := by decide +kernel
theorem d_M_start_51 : decode b_M_start 51 = .ok (.putfield 140, 3) := by decide +kernel
theorem d_M_start_54 : decode b_M_start 54 = .ok (.aload_n 0, 1) := by decide +kernel
theorem d_M_start_55 : decode b_M_start 55 = .ok (.iconst 0, 1) := by decide +kernel
theorem d_M_start_56 : decode b_M_start 56 = .ok (.putfield 143, 3) := by decide +kernel
theorem d_M_start_59 : decode b_M_start 59 = .ok (.aload_n 0, 1) := by decide +kernel
theorem d_M_start_60 : decode b_M_start 60 = .ok (.iconst 0, 1) := by decide +kernel
theorem d_M_start_61 : decode b_M_start 61 = .ok (.putfield 146, 3) := by decide +kernel
theorem d_M_start_64 : decode b_M_start 64 = .ok (.aload_n 0, 1) := by decide +kernel
theorem d_M_start_65 : decode b_M_start 65 = .ok (.iconst 0, 1) := by decide +kernel
theorem d_M_start_66 : decode b_M_start 66 = .ok (.putfield 149, 3) := by decide +kernel
theorem d_M_start_69 : decode b_M_start 69 = .ok (.iconst 0, 1) := by decide +kernel
theorem d_M_start_70 : decode b_M_start 70 = .ok (.istore_n 1, 1) := by decide +kernel
theorem d_M_start_71 : decode b_M_start 71 = .ok (.iload_n 1, 1) := by decide +kernel
theorem d_M_start_72 : decode b_M_start 72 = .ok (.iconst 3, 1) := by decide +kernel
theorem d_M_start_73 : decode b_M_start 73 = .ok (.if_icmp .ge 29, 3) := by decide +kernel
theorem d_M_start_76 : decode b_M_start 76 = .ok (.aload_n 0, 1) := by decide +kernel
theorem d_M_start_77 : decode b_M_start 77 = .ok (.iload_n 1, 1) := by decide +kernel
theorem d_M_start_78 : decode b_M_start 78 = .ok (.invokevirtual 152, 3) := by decide +kernel
theorem d_M_start_81 : decode b_M_start 81 = .ok (.aload_n 0, 1) := by decide +kernel
theorem d_M_start_82 : decode b_M_start 82 = .ok (.getfield 22, 3) := by decide +kernel
theorem d_M_start_85 : decode b_M_start 85 = .ok (.iload_n 1, 1) := by decide +kernel
theorem d_M_start_86 : decode b_M_start 86 = .ok (.iconst 0, 1) := by decide +kernel
theorem d_M_start_87 : decode b_M_start 87 = .ok (.iastore, 1) := by decide +kernel
theorem d_M_start_88 : decode b_M_start 88 = .ok (.aload_n 0, 1) := by decide +kernel
theorem d_M_start_89 : decode b_M_start 89 = .ok (.getfield 25, 3) := by decide +kernel
theorem d_M_start_92 : decode b_M_start 92 = .ok (.iload_n 1, 1) := by decide +kernel
theorem d_M_start_93 : decode b_M_start 93 = .ok (.bipush 32, 2) := by decide +kernel
theorem d_M_start_95 : decode b_M_start 95 = .ok (.iastore, 1) := by decide +kernel
theorem d_M_start_96 : decode b_M_start 96 = .ok (.iinc 1 1, 3) := by decide +kernel
theorem d_M_start_99 : decode b_M_start 99 = .ok (.goto (-28), 3) := by decide +kernel
theorem d_M_start_102 : decode b_M_start 102 = .ok (.iconst 0, 1) := by decide +kernel
theorem d_M_start_103 : decode b_M_start 103 = .ok (.istore_n 1, 1) := by decide +kernel
theorem d_M_start_104 : decode b_M_start 104 = .ok (.iload_n 1, 1) := by decide +kernel
theorem d_M_start_105 : decode b_M_start 105 = .ok (.bipush 8, 2) := by decide +kernel
theorem d_M_start_107 : decode b_M_start 107 = .ok (.if_icmp .ge 16, 3) := by decide +kernel
theorem d_M_start_110 : decode b_M_start 110 = .ok (.aload_n 0, 1) := by decide +kernel
theorem d_M_start_111 : decode b_M_start 111 = .ok (.getfield 68, 3) := by decide +kernel
theorem d_M_start_114 : decode b_M_start 114 = .ok (.iload_n 1, 1) := by decide +kernel
theorem d_M_start_115 : decode b_M_start 115 = .ok (.iconst 0, 1) := by decide +kernel
theorem d_M_start_116 : decode b_M_start 116 = .ok (.iastore, 1) := by decide +kernel
theorem d_M_start_117 : decode b_M_start 117 = .ok (.iinc 1 1, 3) := by decide +kernel
theorem d_M_start_120 : decode b_M_start 120 = .ok (.goto (-16), 3) := by decide +kernel
theorem d_M_start_123 : decode b_M_start 123 = .ok (.iconst 0, 1) := by decide +kernel
theorem d_M_start_124 : decode b_M_start 124 = .ok (.istore_n 1, 1) := by decide +kernel
theorem d_M_start_125 : decode b_M_start 125 = .ok (.iload_n 1, 1) := by decide +kernel
theorem d_M_start_126 : decode b_M_start 126 = .ok (.bipush 32, 2) := by decide +kernel
theorem d_M_start_128 : decode b_M_start 128 = .ok (.if_icmp .ge 16, 3) := by decide +kernel
theorem d_M_start_131 : decode b_M_start 131 = .ok (.aload_n 0, 1) := by decide +kernel
theorem d_M_start_132 : decode b_M_start 132 = .ok (.getfield 71, 3) := by decide +kernel
theorem d_M_start_135 : decode b_M_start 135 = .ok (.iload_n 1, 1) := by decide +kernel
theorem d_M_start_136 : decode b_M_start 136 = .ok (.iconst 0, 1) := by decide +kernel
theorem d_M_start_137 : decode b_M_start 137 = .ok (.iastore, 1) := by decide +kernel
theorem d_M_start_138 : decode b_M_start 138 = .ok (.iinc 1 1, 3) := by decide +kernel
theorem d_M_start_141 : decode b_M_start 141 = .ok (.goto (-16), 3) := by decide +kernel
theorem d_M_start_144 : decode b_M_start 144 = .ok (.iconst 1, 1) := by decide +kernel
theorem d_M_start_145 : decode b_M_start 145 = .ok (.ireturn, 1) := by decide +kernel
theorem d_M_step_0 : decode b_M_step 0 = .ok (.aload_n 0, 1) := by decide +kernel
theorem d_M_step_1 : decode b_M_step 1 = .ok (.aload_n 0, 1) := by decide +kernel
theorem d_M_step_2 : decode b_M_step 2 = .ok (.getfield 89, 3) := by decide +kernel
theorem d_M_step_5 : decode b_M_step 5 = .ok (.ifCond .ne 7, 3) := by decide +kernel
theorem d_M_step_8 : decode b_M_step 8 = .ok (.iconst 1, 1) := by decide +kernel
theorem d_M_step_9 : decode b_M_step 9 = .ok (.goto 20, 3) := by decide +kernel
theorem d_M_step_12 : decode b_M_step 12 = .ok (.iload_n 1, 1) := by decide +kernel
theorem d_M_step_13 : decode b_M_step 13 = .ok (.iconst 1, 1) := by decide +kernel
theorem d_M_step_14 : decode b_M_step 14 = .ok (.if_icmp .lt 10, 3) := by decide +kernel
theorem d_M_step_17 : decode b_M_step 17 = .ok (.iload_n 1, 1) := by decide +kernel
theorem d_M_step_18 : decode b_M_step 18 = .ok (.sipush 2000, 3) := by decide +kernel
theorem d_M_step_21 : decode b_M_step 21 = .ok (.if_icmp .le 7, 3) := by decide +kernel
theorem d_M_step_24 : decode b_M_step 24 = .ok (.iconst 2, 1) := by decide +kernel
theorem d_M_step_25 : decode b_M_step 25 = .ok (.goto 4, 3) := by decide +kernel
theorem d_M_step_28 : decode b_M_step 28 = .ok (.iconst 0, 1) := by decide +kernel
theorem d_M_step_29 : decode b_M_step 29 = .ok (.putfield 77, 3) := by decide +kernel
theorem d_M_step_32 : decode b_M_step 32 = .ok (.aload_n 0, 1) := by decide +kernel
theorem d_M_step_33 : decode b_M_step 33 = .ok (.getfield 77, 3) := by decide +kernel
theorem d_M_step_36 : decode b_M_step 36 = .ok (.ifCond .eq 5, 3) := by decide +kernel
theorem d_M_step_39 : decode b_M_step 39 = .ok (.iconst 0, 1) := by decide +kernel
theorem d_M_step_40 : decode b_M_step 40 = .ok (.ireturn, 1) := by decide +kernel
theorem d_M_step_41 : decode b_M_step 41 = .ok (.iconst 0, 1) := by decide +kernel
theorem d_M_step_42 : decode b_M_step 42 = .ok (.istore_n 2, 1) := by decide +kernel
theorem d_M_step_43 : decode b_M_step 43 = .ok (.iload_n 2, 1) := by decide +kernel
theorem d_M_step_44 : decode b_M_step 44 = .ok (.iload_n 1, 1) := by decide +kernel
theorem d_M_step_45 : decode b_M_step 45 = .ok (.if_icmp .ge 32, 3) := by decide +kernel
theorem d_M_step_48 : decode b_M_step 48 = .ok (.aload_n 0, 1) := by decide +kernel
theorem d_M_step_49 : decode b_M_step 49 = .ok (.getfield 122, 3) := by decide +kernel
theorem d_M_step_52 : decode b_M_step 52 = .ok (.ifCond .ne 25, 3) := by decide +kernel
theorem d_M_step_55 : decode b_M_step 55 = .ok (.iinc 2 1, 3) := by decide +kernel
theorem d_M_step_58 : decode b_M_step 58 = .ok (.aload_n 0, 1) := by decide +kernel
theorem d_M_step_59 : decode b_M_step 59 = .ok (.aload_n 0, 1) := by decide +kernel
theorem d_M_step_60 : decode b_M_step 60 = .ok (.invokevirtual 206, 3) := by decide +kernel
theorem d_M_step_63 : decode b_M_step 63 = .ok (.ifCond .ne 7, 3) := by decide +kernel
theorem d_M_step_66 : decode b_M_step 66 = .ok (.iconst 1, 1) := by decide +kernel
theorem d_M_step_67 : decode b_M_step 67 = .ok (.goto 4, 3) := by decide +kernel
theorem d_M_step_70 : decode b_M_step 70 = .ok (.iconst 0, 1) := by decide +kernel
theorem d_M_step_71 : decode b_M_step 71 = .ok (.putfield 122, 3) := by decide +kernel
theorem d_M_step_74 : decode b_M_step 74 = .ok (.goto (-31), 3) := by decide +kernel
theorem d_M_step_77 : decode b_M_step 77 = .ok (.iload_n 2, 1) := by decide +kernel
theorem d_M_step_78 : decode b_M_step 78 = .ok (.ireturn, 1) := by decide +kernel
theorem d_M_input_0 : decode b_M_input 0 = .ok (.aload_n 0, 1) := by decide +kernel
theorem d_M_input_1 : decode b_M_input 1 = .ok (.iconst 0, 1) := by decide +kernel
theorem d_M_input_2 : decode b_M_input 2 = .ok (.putfield 77, 3) := by decide +kernel
theorem d_M_input_5 : decode b_M_input 5 = .ok (.aload_n 0, 1) := by decide +kernel
theorem d_M_input_6 : decode b_M_input 6 = .ok (.getfield 89, 3) := by decide +kernel
theorem d_M_input_9 : decode b_M_input 9 = .ok (.ifCond .eq 12, 3) := by decide +kernel
theorem d_M_input_12 : decode b_M_input 12 = .ok (.aload_n 0, 1) := by decide +kernel
theorem d_M_input_13 : decode b_M_input 13 = .ok (.getfield 134, 3) := by decide +kernel
theorem d_M_input_16 : decode b_M_input 16 = .ok (.bipush 64, 2) := by decide +kernel
theorem d_M_input_18 : decode b_M_input 18 = .ok (.if_icmp .ne 5, 3) := by decide +kernel
theorem d_M_input_21 : decode b_M_input 21 = .ok (.iconst 0, 1) := by decide +kernel
theorem d_M_input_22 : decode b_M_input 22 = .ok (.ireturn, 1) := by decide +kernel
theorem d_M_input_23 : decode b_M_input 23 = .ok (.aload_n 0, 1) := by decide +kernel
theorem d_M_input_24 : decode b_M_input 24 = .ok (.getfield 62, 3) := by decide +kernel
theorem d_M_input_27 : decode b_M_input 27 = .ok (.aload_n 0, 1) := by decide +kernel
theorem d_M_input_28 : decode b_M_input 28 = .ok (.getfield 134, 3) := by decide +kernel
theorem d_M_input_31 : decode b_M_input 31 = .ok (.iload_n 1, 1) := by decide +kernel
theorem d_M_input_32 : decode b_M_input 32 = .ok (.ldc 156, 2) := by decide +kernel
theorem d_M_input_34 : decode b_M_input 34 = .ok (.iand, 1) := by decide +kernel
theorem d_M_input_35 : decode b_M_input 35 = .ok (.iastore, 1) := by decide +kernel
theorem d_M_input_36 : decode b_M_input 36 = .ok (.aload_n 0, 1) := by decide +kernel
theorem d_M_input_37 : decode b_M_input 37 = .ok (.dup, 1) := by decide +kernel
theorem d_M_input_38 : decode b_M_input 38 = .ok (.getfield 134, 3) := by decide +kernel
theorem d_M_input_41 : decode b_M_input 41 = .ok (.iconst 1, 1) := by decide +kernel
theorem d_M_input_42 : decode b_M_input 42 = .ok (.iadd, 1) := by decide +kernel
theorem d_M_input_43 : decode b_M_input 43 = .ok (.putfield 134, 3) := by decide +kernel
theorem d_M_input_46 : decode b_M_input 46 = .ok (.iconst 1, 1) := by decide +kernel
theorem d_M_input_47 : decode b_M_input 47 = .ok (.ireturn, 1) := by decide +kernel
theorem d_M_output_0 : decode b_M_output 0 = .ok (.aload_n 0, 1) := by decide +kernel
theorem d_M_output_1 : decode b_M_output 1 = .ok (.getfield 89, 3) := by decide +kernel
theorem d_M_output_4 : decode b_M_output 4 = .ok (.ifCond .eq 26, 3) := by decide +kernel
theorem d_M_output_7 : decode b_M_output 7 = .ok (.iload_n 1, 1) := by decide +kernel
theorem d_M_output_8 : decode b_M_output 8 = .ok (.ifCond .lt 22, 3) := by decide +kernel
theorem d_M_output_11 : decode b_M_output 11 = .ok (.iload_n 1, 1) := by decide +kernel
theorem d_M_output_12 : decode b_M_output 12 = .ok (.aload_n 0, 1) := by decide +kernel
theorem d_M_output_13 : decode b_M_output 13 = .ok (.getfield 140, 3) := by decide +kernel
theorem d_M_output_16 : decode b_M_output 16 = .ok (.if_icmp .ge 14, 3) := by decide +kernel
theorem d_M_output_19 : decode b_M_output 19 = .ok (.iload_n 1, 1) := by decide +kernel
theorem d_M_output_20 : decode b_M_output 20 = .ok (.sipush 300, 3) := by decide +kernel
theorem d_M_output_23 : decode b_M_output 23 = .ok (.if_icmp .ge 7, 3) := by decide +kernel
theorem d_M_output_26 : decode b_M_output 26 = .ok (.iconst 1, 1) := by decide +kernel
theorem d_M_output_27 : decode b_M_output 27 = .ok (.goto 4, 3) := by decide +kernel
theorem d_M_output_30 : decode b_M_output 30 = .ok (.iconst 0, 1) := by decide +kernel
theorem d_M_output_31 : decode b_M_output 31 = .ok (.istore_n 2, 1) := by decide +kernel
theorem d_M_output_32 : decode b_M_output 32 = .ok (.aload_n 0, 1) := by decide +kernel
theorem d_M_output_33 : decode b_M_output 33 = .ok (.iload_n 2, 1) := by decide +kernel
theorem d_M_output_34 : decode b_M_output 34 = .ok (.ifCond .eq 7, 3) := by decide +kernel
theorem d_M_output_37 : decode b_M_output 37 = .ok (.iconst 0, 1) := by decide +kernel
theorem d_M_output_38 : decode b_M_output 38 = .ok (.goto 4, 3) := by decide +kernel
theorem d_M_output_41 : decode b_M_output 41 = .ok (.iconst 1, 1) := by decide +kernel
theorem d_M_output_42 : decode b_M_output 42 = .ok (.putfield 77, 3) := by decide +kernel
theorem d_M_output_45 : decode b_M_output 45 = .ok (.iload_n 2, 1) := by decide +kernel
theorem d_M_output_46 : decode b_M_output 46 = .ok (.ifCond .eq 12, 3) := by decide +kernel
theorem d_M_output_49 : decode b_M_output 49 = .ok (.aload_n 0, 1) := by decide +kernel
theorem d_M_output_50 : decode b_M_output 50 = .ok (.getfield 65, 3) := by decide +kernel
theorem d_M_output_53 : decode b_M_output 53 = .ok (.iload_n 1, 1) := by decide +kernel
theorem d_M_output_54 : decode b_M_output 54 = .ok (.iaload, 1) := by decide +kernel
theorem d_M_output_55 : decode b_M_output 55 = .ok (.goto 4, 3) := by decide +kernel
theorem d_M_output_58 : decode b_M_output 58 = .ok (.iconst 0, 1) := by decide +kernel
theorem d_M_output_59 : decode b_M_output 59 = .ok (.ireturn, 1) := by decide +kernel
theorem d_M_perfect_0 : decode b_M_perfect 0 = .ok (.aload_n 0, 1) := by decide +kernel
theorem d_M_perfect_1 : decode b_M_perfect 1 = .ok (.getfield 89, 3) := by decide +kernel
theorem d_M_perfect_4 : decode b_M_perfect 4 = .ok (.ifCond .eq 26, 3) := by decide +kernel
theorem d_M_perfect_7 : decode b_M_perfect 7 = .ok (.iload_n 1, 1) := by decide +kernel
theorem d_M_perfect_8 : decode b_M_perfect 8 = .ok (.ifCond .lt 22, 3) := by decide +kernel
theorem d_M_perfect_11 : decode b_M_perfect 11 = .ok (.iload_n 1, 1) := by decide +kernel
theorem d_M_perfect_12 : decode b_M_perfect 12 = .ok (.aload_n 0, 1) := by decide +kernel
theorem d_M_perfect_13 : decode b_M_perfect 13 = .ok (.getfield 149, 3) := by decide +kernel
theorem d_M_perfect_16 : decode b_M_perfect 16 = .ok (.if_icmp .ge 14, 3) := by decide +kernel
theorem d_M_perfect_19 : decode b_M_perfect 19 = .ok (.iload_n 1, 1) := by decide +kernel
theorem d_M_perfect_20 : decode b_M_perfect 20 = .ok (.sipush 300, 3) := by decide +kernel
theorem d_M_perfect_23 : decode b_M_perfect 23 = .ok (.if_icmp .ge 7, 3) := by decide +kernel
theorem d_M_perfect_26 : decode b_M_perfect 26 = .ok (.iconst 1, 1) := by decide +kernel
theorem d_M_perfect_27 : decode b_M_perfect 27 = .ok (.goto 4, 3) := by decide +kernel
theorem d_M_perfect_30 : decode b_M_perfect 30 = .ok (.iconst 0, 1) := by decide +kernel
theorem d_M_perfect_31 : decode b_M_perfect 31 = .ok (.istore_n 2, 1) := by decide +kernel
theorem d_M_perfect_32 : decode b_M_perfect 32 = .ok (.aload_n 0, 1) := by decide +kernel
theorem d_M_perfect_33 : decode b_M_perfect 33 = .ok (.iload_n 2, 1) := by decide +kernel
theorem d_M_perfect_34 : decode b_M_perfect 34 = .ok (.ifCond .eq 7, 3) := by decide +kernel
theorem d_M_perfect_37 : decode b_M_perfect 37 = .ok (.iconst 0, 1) := by decide +kernel
theorem d_M_perfect_38 : decode b_M_perfect 38 = .ok (.goto 4, 3) := by decide +kernel
theorem d_M_perfect_41 : decode b_M_perfect 41 = .ok (.iconst 1, 1) := by decide +kernel
theorem d_M_perfect_42 : decode b_M_perfect 42 = .ok (.putfield 77, 3) := by decide +kernel
theorem d_M_perfect_45 : decode b_M_perfect 45 = .ok (.iload_n 2, 1) := by decide +kernel
theorem d_M_perfect_46 : decode b_M_perfect 46 = .ok (.ifCond .eq 12, 3) := by decide +kernel
theorem d_M_perfect_49 : decode b_M_perfect 49 = .ok (.aload_n 0, 1) := by decide +kernel
theorem d_M_perfect_50 : decode b_M_perfect 50 = .ok (.getfield 74, 3) := by decide +kernel
theorem d_M_perfect_53 : decode b_M_perfect 53 = .ok (.iload_n 1, 1) := by decide +kernel
theorem d_M_perfect_54 : decode b_M_perfect 54 = .ok (.iaload, 1) := by decide +kernel
theorem d_M_perfect_55 : decode b_M_perfect 55 = .ok (.goto 4, 3) := by decide +kernel
theorem d_M_perfect_58 : decode b_M_perfect 58 = .ok (.iconst 0, 1) := by decide +kernel
theorem d_M_perfect_59 : decode b_M_perfect 59 = .ok (.ireturn, 1) := by decide +kernel
theorem d_M_freeze_0 : decode b_M_freeze 0 = .ok (.aload_n 0, 1) := by decide +kernel
theorem d_M_freeze_1 : decode b_M_freeze 1 = .ok (.iconst 0, 1) := by decide +kernel
theorem d_M_freeze_2 : decode b_M_freeze 2 = .ok (.putfield 77, 3) := by decide +kernel
theorem d_M_freeze_5 : decode b_M_freeze 5 = .ok (.aload_n 0, 1) := by decide +kernel
theorem d_M_freeze_6 : decode b_M_freeze 6 = .ok (.getfield 89, 3) := by decide +kernel
theorem d_M_freeze_9 : decode b_M_freeze 9 = .ok (.ifCond .eq 10, 3) := by decide +kernel
theorem d_M_freeze_12 : decode b_M_freeze 12 = .ok (.iload_n 1, 1) := by decide +kernel
theorem d_M_freeze_13 : decode b_M_freeze 13 = .ok (.invokestatic 209, 3) := by decide +kernel
theorem d_M_freeze_16 : decode b_M_freeze 16 = .ok (.ifCond .ne 5, 3) := by decide +kernel
theorem d_M_freeze_19 : decode b_M_freeze 19 = .ok (.iconst 0, 1) := by decide +kernel
theorem d_M_freeze_20 : decode b_M_freeze 20 = .ok (.ireturn, 1) := by decide +kernel
theorem d_M_freeze_21 : decode b_M_freeze 21 = .ok (.aload_n 0, 1) := by decide +kernel
theorem d_M_freeze_22 : decode b_M_freeze 22 = .ok (.getfield 31, 3) := by decide +kernel
theorem d_M_freeze_25 : decode b_M_freeze 25 = .ok (.iload_n 1, 1) := by decide +kernel
theorem d_M_freeze_26 : decode b_M_freeze 26 = .ok (.iload_n 2, 1) := by decide +kernel
theorem d_M_freeze_27 : decode b_M_freeze 27 = .ok (.bastore, 1) := by decide +kernel
theorem d_M_freeze_28 : decode b_M_freeze 28 = .ok (.iconst 1, 1) := by decide +kernel
theorem d_M_freeze_29 : decode b_M_freeze 29 = .ok (.ireturn, 1) := by decide +kernel
theorem d_M_skip_0 : decode b_M_skip 0 = .ok (.aload_n 0, 1) := by decide +kernel
theorem d_M_skip_1 : decode b_M_skip 1 = .ok (.iconst 0, 1) := by decide +kernel
theorem d_M_skip_2 : decode b_M_skip 2 = .ok (.putfield 77, 3) := by decide +kernel
theorem d_M_skip_5 : decode b_M_skip 5 = .ok (.aload_n 0, 1) := by decide +kernel
theorem d_M_skip_6 : decode b_M_skip 6 = .ok (.getfield 89, 3) := by decide +kernel
theorem d_M_skip_9 : decode b_M_skip 9 = .ok (.ifCond .eq 10, 3) := by decide +kernel
theorem d_M_skip_12 : decode b_M_skip 12 = .ok (.iload_n 1, 1) := by decide +kernel
theorem d_M_skip_13 : decode b_M_skip 13 = .ok (.invokestatic 209, 3) := by decide +kernel
theorem d_M_skip_16 : decode b_M_skip 16 = .ok (.ifCond .ne 5, 3) := by decide +kernel
theorem d_M_skip_19 : decode b_M_skip 19 = .ok (.iconst 0, 1) := by decide +kernel
theorem d_M_skip_20 : decode b_M_skip 20 = .ok (.ireturn, 1) := by decide +kernel
theorem d_M_skip_21 : decode b_M_skip 21 = .ok (.aload_n 0, 1) := by decide +kernel
theorem d_M_skip_22 : decode b_M_skip 22 = .ok (.getfield 35, 3) := by decide +kernel
theorem d_M_skip_25 : decode b_M_skip 25 = .ok (.iload_n 1, 1) := by decide +kernel
theorem d_M_skip_26 : decode b_M_skip 26 = .ok (.iconst 1, 1) := by decide +kernel
theorem d_M_skip_27 : decode b_M_skip 27 = .ok (.bastore, 1) := by decide +kernel
theorem d_M_skip_28 : decode b_M_skip 28 = .ok (.iconst 1, 1) := by decide +kernel
theorem d_M_skip_29 : decode b_M_skip 29 = .ok (.ireturn, 1) := by decide +kernel
theorem d_M_swap_0 : decode b_M_swap 0 = .ok (.aload_n 0, 1) := by decide +kernel
theorem d_M_swap_1 : decode b_M_swap 1 = .ok (.iconst 0, 1) := by decide +kernel
theorem d_M_swap_2 : decode b_M_swap 2 = .ok (.putfield 77, 3) := by decide +kernel
theorem d_M_swap_5 : decode b_M_swap 5 = .ok (.aload_n 0, 1) := by decide +kernel
theorem d_M_swap_6 : decode b_M_swap 6 = .ok (.getfield 89, 3) := by decide +kernel
theorem d_M_swap_9 : decode b_M_swap 9 = .ok (.ifCond .eq 17, 3) := by decide +kernel
theorem d_M_swap_12 : decode b_M_swap 12 = .ok (.iload_n 1, 1) := by decide +kernel
theorem d_M_swap_13 : decode b_M_swap 13 = .ok (.invokestatic 209, 3) := by decide +kernel
theorem d_M_swap_16 : decode b_M_swap 16 = .ok (.ifCond .eq 10, 3) := by decide +kernel
theorem d_M_swap_19 : decode b_M_swap 19 = .ok (.aload_n 0, 1) := by decide +kernel
theorem d_M_swap_20 : decode b_M_swap 20 = .ok (.getfield 122, 3) := by decide +kernel
theorem d_M_swap_23 : decode b_M_swap 23 = .ok (.ifCond .eq 5, 3) := by decide +kernel
theorem d_M_swap_26 : decode b_M_swap 26 = .ok (.iconst 0, 1) := by decide +kernel
theorem d_M_swap_27 : decode b_M_swap 27 = .ok (.ireturn, 1) := by decide +kernel
theorem d_M_swap_28 : decode b_M_swap 28 = .ok (.aload_n 0, 1) := by decide +kernel
theorem d_M_swap_29 : decode b_M_swap 29 = .ok (.invokevirtual 175, 3) := by decide +kernel
theorem d_M_swap_32 : decode b_M_swap 32 = .ok (.aload_n 0, 1) := by decide +kernel
theorem d_M_swap_33 : decode b_M_swap 33 = .ok (.getfield 22, 3) := by decide +kernel
theorem d_M_swap_36 : decode b_M_swap 36 = .ok (.iload_n 1, 1) := by decide +kernel
theorem d_M_swap_37 : decode b_M_swap 37 = .ok (.iaload, 1) := by decide +kernel
theorem d_M_swap_38 : decode b_M_swap 38 = .ok (.ifCond .ne 7, 3) := by decide +kernel
theorem d_M_swap_41 : decode b_M_swap 41 = .ok (.iconst 1, 1) := by decide +kernel
theorem d_M_swap_42 : decode b_M_swap 42 = .ok (.goto 4, 3) := by decide +kernel
theorem d_M_swap_45 : decode b_M_swap 45 = .ok (.iconst 0, 1) := by decide +kernel
theorem d_M_swap_46 : decode b_M_swap 46 = .ok (.isub, 1) := by decide +kernel
theorem d_M_swap_47 : decode b_M_swap 47 = .ok (.istore_n 2, 1) := by decide +kernel
theorem d_M_swap_48 : decode b_M_swap 48 = .ok (.iload_n 2, 1) := by decide +kernel
theorem d_M_swap_49 : decode b_M_swap 49 = .ok (.ifCond .eq 15, 3) := by decide +kernel
theorem d_M_swap_52 : decode b_M_swap 52 = .ok (.iload_n 2, 1) := by decide +kernel
theorem d_M_swap_53 : decode b_M_swap 53 = .ok (.iconst 1, 1) := by decide +kernel
theorem d_M_swap_54 : decode b_M_swap 54 = .ok (.if_icmp .ne 12, 3) := by decide +kernel
theorem d_M_swap_57 : decode b_M_swap 57 = .ok (.aload_n 0, 1) := by decide +kernel
theorem d_M_swap_58 : decode b_M_swap 58 = .ok (.getfield 125, 3) := by decide +kernel
theorem d_M_swap_61 : decode b_M_swap 61 = .ok (.ifCond .ne 5, 3) := by decide +kernel
theorem d_M_swap_64 : decode b_M_swap 64 = .ok (.iconst 0, 1) := by decide +kernel
theorem d_M_swap_65 : decode b_M_swap 65 = .ok (.ireturn, 1) := by decide +kernel
theorem d_M_swap_66 : decode b_M_swap 66 = .ok (.aload_n 0, 1) := by decide +kernel
theorem d_M_swap_67 : decode b_M_swap 67 = .ok (.iload_n 1, 1) := by decide +kernel
theorem d_M_swap_68 : decode b_M_swap 68 = .ok (.invokevirtual 152, 3) := by decide +kernel
theorem d_M_swap_71 : decode b_M_swap 71 = .ok (.aload_n 0, 1) := by decide +kernel
theorem d_M_swap_72 : decode b_M_swap 72 = .ok (.getfield 22, 3) := by decide +kernel
theorem d_M_swap_75 : decode b_M_swap 75 = .ok (.iload_n 1, 1) := by decide +kernel
theorem d_M_swap_76 : decode b_M_swap 76 = .ok (.iconst 1, 1) := by decide +kernel
theorem d_M_swap_77 : decode b_M_swap 77 = .ok (.iastore, 1) := by decide +kernel
theorem d_M_swap_78 : decode b_M_swap 78 = .ok (.aload_n 0, 1) := by decide +kernel
theorem d_M_swap_79 : decode b_M_swap 79 = .ok (.getfield 25, 3) := by decide +kernel
theorem d_M_swap_82 : decode b_M_swap 82 = .ok (.iload_n 1, 1) := by decide +kernel
theorem d_M_swap_83 : decode b_M_swap 83 = .ok (.iconst 0, 1) := by decide +kernel
theorem d_M_swap_84 : decode b_M_swap 84 = .ok (.iastore, 1) := by decide +kernel
theorem d_M_swap_85 : decode b_M_swap 85 = .ok (.iconst 1, 1) := by decide +kernel
theorem d_M_swap_86 : decode b_M_swap 86 = .ok (.ireturn, 1) := by decide +kernel
theorem d_M_module_0 : decode b_M_module 0 = .ok (.aload_n 0, 1) := by decide +kernel
theorem d_M_module_1 : decode b_M_module 1 = .ok (.iconst 0, 1) := by decide +kernel
theorem d_M_module_2 : decode b_M_module 2 = .ok (.putfield 77, 3) := by decide +kernel
theorem d_M_module_5 : decode b_M_module 5 = .ok (.aload_n 0, 1) := by decide +kernel
theorem d_M_module_6 : decode b_M_module 6 = .ok (.getfield 89, 3) := by decide +kernel
theorem d_M_module_9 : decode b_M_module 9 = .ok (.ifCond .eq 19, 3) := by decide +kernel
theorem d_M_module_12 : decode b_M_module 12 = .ok (.iload_n 1, 1) := by decide +kernel
theorem d_M_module_13 : decode b_M_module 13 = .ok (.invokestatic 209, 3) := by decide +kernel
theorem d_M_module_16 : decode b_M_module 16 = .ok (.ifCond .eq 12, 3) := by decide +kernel
theorem d_M_module_19 : decode b_M_module 19 = .ok (.iload_n 2, 1) := by decide +kernel
theorem d_M_module_20 : decode b_M_module 20 = .ok (.ifCond .lt 8, 3) := by decide +kernel
theorem d_M_module_23 : decode b_M_module 23 = .ok (.iload_n 2, 1) := by decide +kernel
theorem d_M_module_24 : decode b_M_module 24 = .ok (.iconst 5, 1) := by decide +kernel
theorem d_M_module_25 : decode b_M_module 25 = .ok (.if_icmp .le 5, 3) := by decide +kernel
theorem d_M_module_28 : decode b_M_module 28 = .ok (.iconst (-1), 1) := by decide +kernel
theorem d_M_module_29 : decode b_M_module 29 = .ok (.ireturn, 1) := by decide +kernel
theorem d_M_module_30 : decode b_M_module 30 = .ok (.iload_n 2, 1) := by decide +kernel
theorem d_M_module_31 : decode b_M_module 31 = .ok (.ifCond .ne 12, 3) := by decide +kernel
theorem d_M_module_34 : decode b_M_module 34 = .ok (.aload_n 0, 1) := by decide +kernel
theorem d_M_module_35 : decode b_M_module 35 = .ok (.getfield 22, 3) := by decide +kernel
theorem d_M_module_38 : decode b_M_module 38 = .ok (.iload_n 1, 1) := by decide +kernel
theorem d_M_module_39 : decode b_M_module 39 = .ok (.iaload, 1) := by decide +kernel
theorem d_M_module_40 : decode b_M_module 40 = .ok (.goto 65, 3) := by decide +kernel
theorem d_M_module_43 : decode b_M_module 43 = .ok (.iload_n 2, 1) := by decide +kernel
theorem d_M_module_44 : decode b_M_module 44 = .ok (.iconst 1, 1) := by decide +kernel
theorem d_M_module_45 : decode b_M_module 45 = .ok (.if_icmp .ne 12, 3) := by decide +kernel
theorem d_M_module_48 : decode b_M_module 48 = .ok (.aload_n 0, 1) := by decide +kernel
theorem d_M_module_49 : decode b_M_module 49 = .ok (.getfield 25, 3) := by decide +kernel
theorem d_M_module_52 : decode b_M_module 52 = .ok (.iload_n 1, 1) := by decide +kernel
theorem d_M_module_53 : decode b_M_module 53 = .ok (.iaload, 1) := by decide +kernel
theorem d_M_module_54 : decode b_M_module 54 = .ok (.goto 51, 3) := by decide +kernel
theorem d_M_module_57 : decode b_M_module 57 = .ok (.iload_n 2, 1) := by decide +kernel
theorem d_M_module_58 : decode b_M_module 58 = .ok (.iconst 2, 1) := by decide +kernel
theorem d_M_module_59 : decode b_M_module 59 = .ok (.if_icmp .ne 12, 3) := by decide +kernel
theorem d_M_module_62 : decode b_M_module 62 = .ok (.aload_n 0, 1) := by decide +kernel
theorem d_M_module_63 : decode b_M_module 63 = .ok (.getfield 28, 3) := by decide +kernel
theorem d_M_module_66 : decode b_M_module 66 = .ok (.iload_n 1, 1) := by decide +kernel
theorem d_M_module_67 : decode b_M_module 67 = .ok (.iaload, 1) := by decide +kernel
theorem d_M_module_68 : decode b_M_module 68 = .ok (.goto 37, 3) := by decide +kernel
theorem d_M_module_71 : decode b_M_module 71 = .ok (.iload_n 2, 1) := by decide +kernel
theorem d_M_module_72 : decode b_M_module 72 = .ok (.iconst 3, 1) := by decide +kernel
theorem d_M_module_73 : decode b_M_module 73 = .ok (.if_icmp .ne 12, 3) := by decide +kernel
theorem d_M_module_76 : decode b_M_module 76 = .ok (.aload_n 0, 1) := by decide +kernel
theorem d_M_module_77 : decode b_M_module 77 = .ok (.getfield 19, 3) := by decide +kernel
theorem d_M_module_80 : decode b_M_module 80 = .ok (.iload_n 1, 1) := by decide +kernel
theorem d_M_module_81 : decode b_M_module 81 = .ok (.iaload, 1) := by decide +kernel
theorem d_M_module_82 : decode b_M_module 82 = .ok (.goto 23, 3) := by decide +kernel
theorem d_M_module_85 : decode b_M_module 85 = .ok (.iload_n 2, 1) := by decide +kernel
theorem d_M_module_86 : decode b_M_module 86 = .ok (.iconst 4, 1) := by decide +kernel
theorem d_M_module_87 : decode b_M_module 87 = .ok (.if_icmp .ne 12, 3) := by decide +kernel
theorem d_M_module_90 : decode b_M_module 90 = .ok (.aload_n 0, 1) := by decide +kernel
theorem d_M_module_91 : decode b_M_module 91 = .ok (.getfield 38, 3) := by decide +kernel
theorem d_M_module_94 : decode b_M_module 94 = .ok (.iload_n 1, 1) := by decide +kernel
theorem d_M_module_95 : decode b_M_module 95 = .ok (.iaload, 1) := by decide +kernel
theorem d_M_module_96 : decode b_M_module 96 = .ok (.goto 9, 3) := by decide +kernel
theorem d_M_module_99 : decode b_M_module 99 = .ok (.aload_n 0, 1) := by decide +kernel
theorem d_M_module_100 : decode b_M_module 100 = .ok (.getfield 41, 3) := by decide +kernel
theorem d_M_module_103 : decode b_M_module 103 = .ok (.iload_n 1, 1) := by decide +kernel
theorem d_M_module_104 : decode b_M_module 104 = .ok (.iaload, 1) := by decide +kernel
theorem d_M_module_105 : decode b_M_module 105 = .ok (.ireturn, 1) := by decide +kernel
theorem d_M_register_0 : decode b_M_register 0 = .ok (.aload_n 0, 1) := by decide +kernel
theorem d_M_register_1 : decode b_M_register 1 = .ok (.iconst 0, 1) := by decide +kernel
theorem d_M_register_2 : decode b_M_register 2 = .ok (.putfield 77, 3) := by decide +kernel
theorem d_M_register_5 : decode b_M_register 5 = .ok (.aload_n 0, 1) := by decide +kernel
theorem d_M_register_6 : decode b_M_register 6 = .ok (.getfield 89, 3) := by decide +kernel
theorem d_M_register_9 : decode b_M_register 9 = .ok (.ifCond .eq 20, 3) := by decide +kernel
theorem d_M_register_12 : decode b_M_register 12 = .ok (.iload_n 1, 1) := by decide +kernel
theorem d_M_register_13 : decode b_M_register 13 = .ok (.invokestatic 209, 3) := by decide +kernel
theorem d_M_register_16 : decode b_M_register 16 = .ok (.ifCond .eq 13, 3) := by decide +kernel
theorem d_M_register_19 : decode b_M_register 19 = .ok (.iload_n 2, 1) := by decide +kernel
theorem d_M_register_20 : decode b_M_register 20 = .ok (.ifCond .lt 9, 3) := by decide +kernel
theorem d_M_register_23 : decode b_M_register 23 = .ok (.iload_n 2, 1) := by decide +kernel
theorem d_M_register_24 : decode b_M_register 24 = .ok (.bipush 7, 2) := by decide +kernel
theorem d_M_register_26 : decode b_M_register 26 = .ok (.if_icmp .le 7, 3) := by decide +kernel
theorem d_M_register_29 : decode b_M_register 29 = .ok (.iconst (-1), 1) := by decide +kernel
theorem d_M_register_30 : decode b_M_register 30 = .ok (.goto 14, 3) := by decide +kernel
theorem d_M_register_33 : decode b_M_register 33 = .ok (.aload_n 0, 1) := by decide +kernel
theorem d_M_register_34 : decode b_M_register 34 = .ok (.getfield 13, 3) := by decide +kernel
theorem d_M_register_37 : decode b_M_register 37 = .ok (.bipush 8, 2) := by decide +kernel
theorem d_M_register_39 : decode b_M_register 39 = .ok (.iload_n 1, 1) := by decide +kernel
theorem d_M_register_40 : decode b_M_register 40 = .ok (.imul, 1) := by decide +kernel
theorem d_M_register_41 : decode b_M_register 41 = .ok (.iload_n 2, 1) := by decide +kernel
theorem d_M_register_42 : decode b_M_register 42 = .ok (.iadd, 1) := by decide +kernel
theorem d_M_register_43 : decode b_M_register 43 = .ok (.iaload, 1) := by decide +kernel
theorem d_M_register_44 : decode b_M_register 44 = .ok (.ireturn, 1) := by decide +kernel
theorem d_M_code_0 : decode b_M_code 0 = .ok (.aload_n 0, 1) := by decide +kernel
theorem d_M_code_1 : decode b_M_code 1 = .ok (.iconst 0, 1) := by decide +kernel
theorem d_M_code_2 : decode b_M_code 2 = .ok (.putfield 77, 3) := by decide +kernel
theorem d_M_code_5 : decode b_M_code 5 = .ok (.aload_n 0, 1) := by decide +kernel
theorem d_M_code_6 : decode b_M_code 6 = .ok (.getfield 89, 3) := by decide +kernel
theorem d_M_code_9 : decode b_M_code 9 = .ok (.ifCond .eq 20, 3) := by decide +kernel
theorem d_M_code_12 : decode b_M_code 12 = .ok (.iload_n 1, 1) := by decide +kernel
theorem d_M_code_13 : decode b_M_code 13 = .ok (.invokestatic 209, 3) := by decide +kernel
theorem d_M_code_16 : decode b_M_code 16 = .ok (.ifCond .eq 13, 3) := by decide +kernel
theorem d_M_code_19 : decode b_M_code 19 = .ok (.iload_n 2, 1) := by decide +kernel
theorem d_M_code_20 : decode b_M_code 20 = .ok (.ifCond .lt 9, 3) := by decide +kernel
theorem d_M_code_23 : decode b_M_code 23 = .ok (.iload_n 2, 1) := by decide +kernel
theorem d_M_code_24 : decode b_M_code 24 = .ok (.bipush 32, 2) := by decide +kernel
theorem d_M_code_26 : decode b_M_code 26 = .ok (.if_icmp .lt 7, 3) := by decide +kernel
theorem d_M_code_29 : decode b_M_code 29 = .ok (.iconst (-1), 1) := by decide +kernel
theorem d_M_code_30 : decode b_M_code 30 = .ok (.goto 14, 3) := by decide +kernel
theorem d_M_code_33 : decode b_M_code 33 = .ok (.aload_n 0, 1) := by decide +kernel
theorem d_M_code_34 : decode b_M_code 34 = .ok (.getfield 16, 3) := by decide +kernel
theorem d_M_code_37 : decode b_M_code 37 = .ok (.bipush 32, 2) := by decide +kernel
theorem d_M_code_39 : decode b_M_code 39 = .ok (.iload_n 1, 1) := by decide +kernel
theorem d_M_code_40 : decode b_M_code 40 = .ok (.imul, 1) := by decide +kernel
theorem d_M_code_41 : decode b_M_code 41 = .ok (.iload_n 2, 1) := by decide +kernel
theorem d_M_code_42 : decode b_M_code 42 = .ok (.iadd, 1) := by decide +kernel
theorem d_M_code_43 : decode b_M_code 43 = .ok (.iaload, 1) := by decide +kernel
theorem d_M_code_44 : decode b_M_code 44 = .ok (.ireturn, 1) := by decide +kernel
theorem d_M_flip_0 : decode b_M_flip 0 = .ok (.aload_n 0, 1) := by decide +kernel
theorem d_M_flip_1 : decode b_M_flip 1 = .ok (.getfield 89, 3) := by decide +kernel
theorem d_M_flip_4 : decode b_M_flip 4 = .ok (.ifCond .eq 74, 3) := by decide +kernel
theorem d_M_flip_7 : decode b_M_flip 7 = .ok (.iload_n 1, 1) := by decide +kernel
theorem d_M_flip_8 : decode b_M_flip 8 = .ok (.invokestatic 209, 3) := by decide +kernel
theorem d_M_flip_11 : decode b_M_flip 11 = .ok (.ifCond .eq 67, 3) := by decide +kernel
theorem d_M_flip_14 : decode b_M_flip 14 = .ok (.iload 4, 2) := by decide +kernel
theorem d_M_flip_16 : decode b_M_flip 16 = .ok (.ifCond .lt 62, 3) := by decide +kernel
theorem d_M_flip_19 : decode b_M_flip 19 = .ok (.iload_n 3, 1) := by decide +kernel
theorem d_M_flip_20 : decode b_M_flip 20 = .ok (.ifCond .lt 58, 3) := by decide +kernel
theorem d_M_flip_23 : decode b_M_flip 23 = .ok (.iload_n 2, 1) := by decide +kernel
theorem d_M_flip_24 : decode b_M_flip 24 = .ok (.ifCond .ne 16, 3) := by decide +kernel
theorem d_M_flip_27 : decode b_M_flip 27 = .ok (.iload_n 3, 1) := by decide +kernel
theorem d_M_flip_28 : decode b_M_flip 28 = .ok (.bipush 8, 2) := by decide +kernel
theorem d_M_flip_30 : decode b_M_flip 30 = .ok (.if_icmp .ge 10, 3) := by decide +kernel
theorem d_M_flip_33 : decode b_M_flip 33 = .ok (.iload 4, 2) := by decide +kernel
theorem d_M_flip_35 : decode b_M_flip 35 = .ok (.bipush 16, 2) := by decide +kernel
theorem d_M_flip_37 : decode b_M_flip 37 = .ok (.if_icmp .lt 37, 3) := by decide +kernel
theorem d_M_flip_40 : decode b_M_flip 40 = .ok (.iload_n 2, 1) := by decide +kernel
theorem d_M_flip_41 : decode b_M_flip 41 = .ok (.iconst 1, 1) := by decide +kernel
theorem d_M_flip_42 : decode b_M_flip 42 = .ok (.if_icmp .ne 16, 3) := by decide +kernel
theorem d_M_flip_45 : decode b_M_flip 45 = .ok (.iload_n 3, 1) := by decide +kernel
theorem d_M_flip_46 : decode b_M_flip 46 = .ok (.bipush 32, 2) := by decide +kernel
theorem d_M_flip_48 : decode b_M_flip 48 = .ok (.if_icmp .ge 10, 3) := by decide +kernel
theorem d_M_flip_51 : decode b_M_flip 51 = .ok (.iload 4, 2) := by decide +kernel
theorem d_M_flip_53 : decode b_M_flip 53 = .ok (.bipush 22, 2) := by decide +kernel
theorem d_M_flip_55 : decode b_M_flip 55 = .ok (.if_icmp .lt 19, 3) := by decide +kernel
theorem d_M_flip_58 : decode b_M_flip 58 = .ok (.iload_n 2, 1) := by decide +kernel
theorem d_M_flip_59 : decode b_M_flip 59 = .ok (.iconst 2, 1) := by decide +kernel
theorem d_M_flip_60 : decode b_M_flip 60 = .ok (.if_icmp .ne 18, 3) := by decide +kernel
theorem d_M_flip_63 : decode b_M_flip 63 = .ok (.iload_n 3, 1) := by decide +kernel
theorem d_M_flip_64 : decode b_M_flip 64 = .ok (.ifCond .ne 14, 3) := by decide +kernel
theorem d_M_flip_67 : decode b_M_flip 67 = .ok (.iload 4, 2) := by decide +kernel
theorem d_M_flip_69 : decode b_M_flip 69 = .ok (.bipush 6, 2) := by decide +kernel
theorem d_M_flip_71 : decode b_M_flip 71 = .ok (.if_icmp .ge 7, 3) := by decide +kernel
theorem d_M_flip_74 : decode b_M_flip 74 = .ok (.iconst 1, 1) := by decide +kernel
theorem d_M_flip_75 : decode b_M_flip 75 = .ok (.goto 4, 3) := by decide +kernel
theorem d_M_flip_78 : decode b_M_flip 78 = .ok (.iconst 0, 1) := by decide +kernel
theorem d_M_flip_79 : decode b_M_flip 79 = .ok (.istore 5, 2) := by decide +kernel
theorem d_M_flip_81 : decode b_M_flip 81 = .ok (.aload_n 0, 1) := by decide +kernel
theorem d_M_flip_82 : decode b_M_flip 82 = .ok (.iload 5, 2) := by decide +kernel
theorem d_M_flip_84 : decode b_M_flip 84 = .ok (.ifCond .eq 7, 3) := by decide +kernel
theorem d_M_flip_87 : decode b_M_flip 87 = .ok (.iconst 0, 1) := by decide +kernel
theorem d_M_flip_88 : decode b_M_flip 88 = .ok (.goto 4, 3) := by decide +kernel
theorem d_M_flip_91 : decode b_M_flip 91 = .ok (.iconst 1, 1) := by decide +kernel
theorem d_M_flip_92 : decode b_M_flip 92 = .ok (.putfield 77, 3) := by decide +kernel
theorem d_M_flip_95 : decode b_M_flip 95 = .ok (.iload 5, 2) := by decide +kernel
theorem d_M_flip_97 : decode b_M_flip 97 = .ok (.ifCond .ne 4, 3) := by decide +kernel
theorem d_M_flip_100 : decode b_M_flip 100 = .ok (.return_, 1) := by decide +kernel
theorem d_M_flip_101 : decode b_M_flip 101 = .ok (.iload_n 2, 1) := by decide +kernel
theorem d_M_flip_102 : decode b_M_flip 102 = .ok (.ifCond .ne 21, 3) := by decide +kernel
theorem d_M_flip_105 : decode b_M_flip 105 = .ok (.aload_n 0, 1) := by decide +kernel
theorem d_M_flip_106 : decode b_M_flip 106 = .ok (.getfield 13, 3) := by decide +kernel
theorem d_M_flip_109 : decode b_M_flip 109 = .ok (.bipush 8, 2) := by decide +kernel
theorem d_M_flip_111 : decode b_M_flip 111 = .ok (.iload_n 1, 1) := by decide +kernel
theorem d_M_flip_112 : decode b_M_flip 112 = .ok (.imul, 1) := by decide +kernel
theorem d_M_flip_113 : decode b_M_flip 113 = .ok (.iload_n 3, 1) := by decide +kernel
theorem d_M_flip_114 : decode b_M_flip 114 = .ok (.iadd, 1) := by decide +kernel
theorem d_M_flip_115 : decode b_M_flip 115 = .ok (.dup2, 1) := by decide +kernel
theorem d_M_flip_116 : decode b_M_flip 116 = .ok (.iaload, 1) := by decide +kernel
theorem d_M_flip_117 : decode b_M_flip 117 = .ok (.iconst 1, 1) := by decide +kernel
theorem d_M_flip_118 : decode b_M_flip 118 = .ok (.iload 4, 2) := by decide +kernel
theorem d_M_flip_120 : decode b_M_flip 120 = .ok (.ishl, 1) := by decide +kernel
theorem d_M_flip_121 : decode b_M_flip 121 = .ok (.ixor, 1) := by decide +kernel
theorem d_M_flip_122 : decode b_M_flip 122 = .ok (.iastore, 1) := by decide +kernel
theorem d_M_flip_123 : decode b_M_flip 123 = .ok (.iload_n 2, 1) := by decide +kernel
theorem d_M_flip_124 : decode b_M_flip 124 = .ok (.iconst 1, 1) := by decide +kernel
theorem d_M_flip_125 : decode b_M_flip 125 = .ok (.if_icmp .ne 21, 3) := by decide +kernel
theorem d_M_flip_128 : decode b_M_flip 128 = .ok (.aload_n 0, 1) := by decide +kernel
theorem d_M_flip_129 : decode b_M_flip 129 = .ok (.getfield 16, 3) := by decide +kernel
theorem d_M_flip_132 : decode b_M_flip 132 = .ok (.bipush 32, 2) := by decide +kernel
theorem d_M_flip_134 : decode b_M_flip 134 = .ok (.iload_n 1, 1) := by decide +kernel
theorem d_M_flip_135 : decode b_M_flip 135 = .ok (.imul, 1) := by decide +kernel
theorem d_M_flip_136 : decode b_M_flip 136 = .ok (.iload_n 3, 1) := by decide +kernel
theorem d_M_flip_137 : decode b_M_flip 137 = .ok (.iadd, 1) := by decide +kernel
theorem d_M_flip_138 : decode b_M_flip 138 = .ok (.dup2, 1) := by decide +kernel
theorem d_M_flip_139 : decode b_M_flip 139 = .ok (.iaload, 1) := by decide +kernel
theorem d_M_flip_140 : decode b_M_flip 140 = .ok (.iconst 1, 1) := by decide +kernel
theorem d_M_flip_141 : decode b_M_flip 141 = .ok (.iload 4, 2) := by decide +kernel
theorem d_M_flip_143 : decode b_M_flip 143 = .ok (.ishl, 1) := by decide +kernel
theorem d_M_flip_144 : decode b_M_flip 144 = .ok (.ixor, 1) := by decide +kernel
theorem d_M_flip_145 : decode b_M_flip 145 = .ok (.iastore, 1) := by decide +kernel
theorem d_M_flip_146 : decode b_M_flip 146 = .ok (.iload_n 2, 1) := by decide +kernel
theorem d_M_flip_147 : decode b_M_flip 147 = .ok (.iconst 2, 1) := by decide +kernel
theorem d_M_flip_148 : decode b_M_flip 148 = .ok (.if_icmp .ne 25, 3) := by decide +kernel
theorem d_M_flip_151 : decode b_M_flip 151 = .ok (.aload_n 0, 1) := by decide +kernel
theorem d_M_flip_152 : decode b_M_flip 152 = .ok (.getfield 19, 3) := by decide +kernel
theorem d_M_flip_155 : decode b_M_flip 155 = .ok (.iload_n 1, 1) := by decide +kernel
theorem d_M_flip_156 : decode b_M_flip 156 = .ok (.aload_n 0, 1) := by decide +kernel
theorem d_M_flip_157 : decode b_M_flip 157 = .ok (.getfield 19, 3) := by decide +kernel
theorem d_M_flip_160 : decode b_M_flip 160 = .ok (.iload_n 1, 1) := by decide +kernel
theorem d_M_flip_161 : decode b_M_flip 161 = .ok (.iaload, 1) := by decide +kernel
theorem d_M_flip_162 : decode b_M_flip 162 = .ok (.iconst 1, 1) := by decide +kernel
theorem d_M_flip_163 : decode b_M_flip 163 = .ok (.iload 4, 2) := by decide +kernel
theorem d_M_flip_165 : decode b_M_flip 165 = .ok (.ishl, 1) := by decide +kernel
theorem d_M_flip_166 : decode b_M_flip 166 = .ok (.ixor, 1) := by decide +kernel
theorem d_M_flip_167 : decode b_M_flip 167 = .ok (.aload_n 0, 1) := by decide +kernel
theorem d_M_flip_168 : decode b_M_flip 168 = .ok (.getfield 93, 3) := by decide +kernel
theorem d_M_flip_171 : decode b_M_flip 171 = .ok (.irem, 1) := by decide +kernel
theorem d_M_flip_172 : decode b_M_flip 172 = .ok (.iastore, 1) := by decide +kernel
theorem d_M_flip_173 : decode b_M_flip 173 = .ok (.return_, 1) := by decide +kernel
theorem d_M_state_0 : decode b_M_state 0 = .ok (.aload_n 0, 1) := by decide +kernel
theorem d_M_state_1 : decode b_M_state 1 = .ok (.iconst 0, 1) := by decide +kernel
theorem d_M_state_2 : decode b_M_state 2 = .ok (.putfield 77, 3) := by decide +kernel
theorem d_M_state_5 : decode b_M_state 5 = .ok (.iload_n 1, 1) := by decide +kernel
theorem d_M_state_6 : decode b_M_state 6 = .ok (.tableswitch 112 0 6 #[42, 69, 74, 79, 84, 89, 99], 42) := by decide +kernel
theorem d_M_state_48 : decode b_M_state 48 = .ok (.aload_n 0, 1) := by decide +kernel
theorem d_M_state_49 : decode b_M_state 49 = .ok (.getfield 89, 3) := by decide +kernel
theorem d_M_state_52 : decode b_M_state 52 = .ok (.ifCond .ne 7, 3) := by decide +kernel
theorem d_M_state_55 : decode b_M_state 55 = .ok (.iconst (-1), 1) := by decide +kernel
theorem d_M_state_56 : decode b_M_state 56 = .ok (.goto 18, 3) := by decide +kernel
theorem d_M_state_59 : decode b_M_state 59 = .ok (.aload_n 0, 1) := by decide +kernel
theorem d_M_state_60 : decode b_M_state 60 = .ok (.getfield 122, 3) := by decide +kernel
theorem d_M_state_63 : decode b_M_state 63 = .ok (.ifCond .eq 7, 3) := by decide +kernel
theorem d_M_state_66 : decode b_M_state 66 = .ok (.iconst 0, 1) := by decide +kernel
theorem d_M_state_67 : decode b_M_state 67 = .ok (.goto 7, 3) := by decide +kernel
theorem d_M_state_70 : decode b_M_state 70 = .ok (.aload_n 0, 1) := by decide +kernel
theorem d_M_state_71 : decode b_M_state 71 = .ok (.invokevirtual 175, 3) := by decide +kernel
theorem d_M_state_74 : decode b_M_state 74 = .ok (.ireturn, 1) := by decide +kernel
theorem d_M_state_75 : decode b_M_state 75 = .ok (.aload_n 0, 1) := by decide +kernel
theorem d_M_state_76 : decode b_M_state 76 = .ok (.getfield 128, 3) := by decide +kernel
theorem d_M_state_79 : decode b_M_state 79 = .ok (.ireturn, 1) := by decide +kernel
theorem d_M_state_80 : decode b_M_state 80 = .ok (.aload_n 0, 1) := by decide +kernel
theorem d_M_state_81 : decode b_M_state 81 = .ok (.getfield 131, 3) := by decide +kernel
theorem d_M_state_84 : decode b_M_state 84 = .ok (.ireturn, 1) := by decide +kernel
theorem d_M_state_85 : decode b_M_state 85 = .ok (.aload_n 0, 1) := by decide +kernel
theorem d_M_state_86 : decode b_M_state 86 = .ok (.getfield 140, 3) := by decide +kernel
theorem d_M_state_89 : decode b_M_state 89 = .ok (.ireturn, 1) := by decide +kernel
theorem d_M_state_90 : decode b_M_state 90 = .ok (.aload_n 0, 1) := by decide +kernel
theorem d_M_state_91 : decode b_M_state 91 = .ok (.getfield 149, 3) := by decide +kernel
theorem d_M_state_94 : decode b_M_state 94 = .ok (.ireturn, 1) := by decide +kernel
theorem d_M_state_95 : decode b_M_state 95 = .ok (.aload_n 0, 1) := by decide +kernel
theorem d_M_state_96 : decode b_M_state 96 = .ok (.getfield 134, 3) := by decide +kernel
theorem d_M_state_99 : decode b_M_state 99 = .ok (.aload_n 0, 1) := by decide +kernel
theorem d_M_state_100 : decode b_M_state 100 = .ok (.getfield 137, 3) := by decide +kernel
theorem d_M_state_103 : decode b_M_state 103 = .ok (.isub, 1) := by decide +kernel
theorem d_M_state_104 : decode b_M_state 104 = .ok (.ireturn, 1) := by decide +kernel
theorem d_M_state_105 : decode b_M_state 105 = .ok (.aload_n 0, 1) := by decide +kernel
theorem d_M_state_106 : decode b_M_state 106 = .ok (.getfield 125, 3) := by decide +kernel
theorem d_M_state_109 : decode b_M_state 109 = .ok (.ifCond .eq 7, 3) := by decide +kernel
theorem d_M_state_112 : decode b_M_state 112 = .ok (.iconst 1, 1) := by decide +kernel
theorem d_M_state_113 : decode b_M_state 113 = .ok (.goto 4, 3) := by decide +kernel
theorem d_M_state_116 : decode b_M_state 116 = .ok (.iconst 0, 1) := by decide +kernel
theorem d_M_state_117 : decode b_M_state 117 = .ok (.ireturn, 1) := by decide +kernel
theorem d_M_state_118 : decode b_M_state 118 = .ok (.iconst (-1), 1) := by decide +kernel
theorem d_M_state_119 : decode b_M_state 119 = .ok (.ireturn, 1) := by decide +kernel
theorem d_M_allow_0 : decode b_M_allow 0 = .ok (.aload_n 0, 1) := by decide +kernel
theorem d_M_allow_1 : decode b_M_allow 1 = .ok (.iconst 0, 1) := by decide +kernel
theorem d_M_allow_2 : decode b_M_allow 2 = .ok (.putfield 77, 3) := by decide +kernel
theorem d_M_allow_5 : decode b_M_allow 5 = .ok (.aload_n 0, 1) := by decide +kernel
theorem d_M_allow_6 : decode b_M_allow 6 = .ok (.iload_n 1, 1) := by decide +kernel
theorem d_M_allow_7 : decode b_M_allow 7 = .ok (.putfield 125, 3) := by decide +kernel
theorem d_M_allow_10 : decode b_M_allow 10 = .ok (.return_, 1) := by decide +kernel
theorem d_M_thrown_0 : decode b_M_thrown 0 = .ok (.aload_n 0, 1) := by decide +kernel
theorem d_M_thrown_1 : decode b_M_thrown 1 = .ok (.getfield 77, 3) := by decide +kernel
theorem d_M_thrown_4 : decode b_M_thrown 4 = .ok (.ireturn, 1) := by decide +kernel
theorem d_L_step_0 : decode b_L_step 0 = .ok (.aload_n 2, 1) := by decide +kernel
theorem d_L_step_1 : decode b_L_step 1 = .ok (.iconst 0, 1) := by decide +kernel
theorem d_L_step_2 : decode b_L_step 2 = .ok (.aload_n 0, 1) := by decide +kernel
theorem d_L_step_3 : decode b_L_step 3 = .ok (.iload_n 1, 1) := by decide +kernel
theorem d_L_step_4 : decode b_L_step 4 = .ok (.invokevirtual 7, 3) := by decide +kernel
theorem d_L_step_7 : decode b_L_step 7 = .ok (.i2l, 1) := by decide +kernel
theorem d_L_step_8 : decode b_L_step 8 = .ok (.lastore, 1) := by decide +kernel
theorem d_L_step_9 : decode b_L_step 9 = .ok (.goto 9, 3) := by decide +kernel
theorem d_L_step_12 : decode b_L_step 12 = .ok (.astore_n 3, 1) := by decide +kernel
theorem d_L_step_13 : decode b_L_step 13 = .ok (.iconst 1, 1) := by decide +kernel
theorem d_L_step_14 : decode b_L_step 14 = .ok (.ireturn, 1) := by decide +kernel
theorem d_L_step_15 : decode b_L_step 15 = .ok (.astore_n 3, 1) := by decide +kernel
theorem d_L_step_16 : decode b_L_step 16 = .ok (.iconst 2, 1) := by decide +kernel
theorem d_L_step_17 : decode b_L_step 17 = .ok (.ireturn, 1) := by decide +kernel
theorem d_L_step_18 : decode b_L_step 18 = .ok (.iconst 0, 1) := by decide +kernel
theorem d_L_step_19 : decode b_L_step 19 = .ok (.ireturn, 1) := by decide +kernel
theorem d_L_output_0 : decode b_L_output 0 = .ok (.aload_n 2, 1) := by decide +kernel
theorem d_L_output_1 : decode b_L_output 1 = .ok (.iconst 0, 1) := by decide +kernel
theorem d_L_output_2 : decode b_L_output 2 = .ok (.aload_n 0, 1) := by decide +kernel
theorem d_L_output_3 : decode b_L_output 3 = .ok (.iload_n 1, 1) := by decide +kernel
theorem d_L_output_4 : decode b_L_output 4 = .ok (.invokevirtual 17, 3) := by decide +kernel
theorem d_L_output_7 : decode b_L_output 7 = .ok (.i2l, 1) := by decide +kernel
theorem d_L_output_8 : decode b_L_output 8 = .ok (.lastore, 1) := by decide +kernel
theorem d_L_output_9 : decode b_L_output 9 = .ok (.goto 6, 3) := by decide +kernel
theorem d_L_output_12 : decode b_L_output 12 = .ok (.astore_n 3, 1) := by decide +kernel
theorem d_L_output_13 : decode b_L_output 13 = .ok (.iconst 1, 1) := by decide +kernel
theorem d_L_output_14 : decode b_L_output 14 = .ok (.ireturn, 1) := by decide +kernel
theorem d_L_output_15 : decode b_L_output 15 = .ok (.iconst 0, 1) := by decide +kernel
theorem d_L_output_16 : decode b_L_output 16 = .ok (.ireturn, 1) := by decide +kernel
theorem d_L_perfect_0 : decode b_L_perfect 0 = .ok (.aload_n 2, 1) := by decide +kernel
theorem d_L_perfect_1 : decode b_L_perfect 1 = .ok (.iconst 0, 1) := by decide +kernel
theorem d_L_perfect_2 : decode b_L_perfect 2 = .ok (.aload_n 0, 1) := by decide +kernel
theorem d_L_perfect_3 : decode b_L_perfect 3 = .ok (.iload_n 1, 1) := by decide +kernel
theorem d_L_perfect_4 : decode b_L_perfect 4 = .ok (.invokevirtual 22, 3) := by decide +kernel
theorem d_L_perfect_7 : decode b_L_perfect 7 = .ok (.i2l, 1) := by decide +kernel
theorem d_L_perfect_8 : decode b_L_perfect 8 = .ok (.lastore, 1) := by decide +kernel
theorem d_L_perfect_9 : decode b_L_perfect 9 = .ok (.goto 6, 3) := by decide +kernel
theorem d_L_perfect_12 : decode b_L_perfect 12 = .ok (.astore_n 3, 1) := by decide +kernel
theorem d_L_perfect_13 : decode b_L_perfect 13 = .ok (.iconst 1, 1) := by decide +kernel
theorem d_L_perfect_14 : decode b_L_perfect 14 = .ok (.ireturn, 1) := by decide +kernel
theorem d_L_perfect_15 : decode b_L_perfect 15 = .ok (.iconst 0, 1) := by decide +kernel
theorem d_L_perfect_16 : decode b_L_perfect 16 = .ok (.ireturn, 1) := by decide +kernel
theorem d_L_flip_0 : decode b_L_flip 0 = .ok (.aload_n 0, 1) := by decide +kernel
theorem d_L_flip_1 : decode b_L_flip 1 = .ok (.iload_n 1, 1) := by decide +kernel
theorem d_L_flip_2 : decode b_L_flip 2 = .ok (.iload_n 2, 1) := by decide +kernel
theorem d_L_flip_3 : decode b_L_flip 3 = .ok (.iload_n 3, 1) := by decide +kernel
theorem d_L_flip_4 : decode b_L_flip 4 = .ok (.iload 4, 2) := by decide +kernel
theorem d_L_flip_6 : decode b_L_flip 6 = .ok (.invokevirtual 25, 3) := by decide +kernel
theorem d_L_flip_9 : decode b_L_flip 9 = .ok (.goto 7, 3) := by decide +kernel
theorem d_L_flip_12 : decode b_L_flip 12 = .ok (.astore 5, 2) := by decide +kernel
theorem d_L_flip_14 : decode b_L_flip 14 = .ok (.iconst 1, 1) := by decide +kernel
theorem d_L_flip_15 : decode b_L_flip 15 = .ok (.ireturn, 1) := by decide +kernel
theorem d_L_flip_16 : decode b_L_flip 16 = .ok (.iconst 0, 1) := by decide +kernel
theorem d_L_flip_17 : decode b_L_flip 17 = .ok (.ireturn, 1) := by decide +kernel
theorem d_L_law_0 : decode b_L_law 0 = .ok (.new 8, 3) := by decide +kernel
theorem d_L_law_3 : decode b_L_law 3 = .ok (.dup, 1) := by decide +kernel
theorem d_L_law_4 : decode b_L_law 4 = .ok (.invokespecial 29, 3) := by decide +kernel
theorem d_L_law_7 : decode b_L_law 7 = .ok (.astore_n 1, 1) := by decide +kernel
theorem d_L_law_8 : decode b_L_law 8 = .ok (.new 30, 3) := by decide +kernel
theorem d_L_law_11 : decode b_L_law 11 = .ok (.dup, 1) := by decide +kernel
theorem d_L_law_12 : decode b_L_law 12 = .ok (.invokespecial 32, 3) := by decide +kernel
theorem d_L_law_15 : decode b_L_law 15 = .ok (.astore_n 2, 1) := by decide +kernel
theorem d_L_law_16 : decode b_L_law 16 = .ok (.iconst 1, 1) := by decide +kernel
theorem d_L_law_17 : decode b_L_law 17 = .ok (.newarray .long, 2) := by decide +kernel
theorem d_L_law_19 : decode b_L_law 19 = .ok (.astore_n 3, 1) := by decide +kernel
theorem d_L_law_20 : decode b_L_law 20 = .ok (.iconst 0, 1) := by decide +kernel
theorem d_L_law_21 : decode b_L_law 21 = .ok (.istore 4, 2) := by decide +kernel
theorem d_L_law_23 : decode b_L_law 23 = .ok (.iload 4, 2) := by decide +kernel
theorem d_L_law_25 : decode b_L_law 25 = .ok (.aload_n 0, 1) := by decide +kernel
theorem d_L_law_26 : decode b_L_law 26 = .ok (.arraylength, 1) := by decide +kernel
theorem d_L_law_27 : decode b_L_law 27 = .ok (.iconst 5, 1) := by decide +kernel
theorem d_L_law_28 : decode b_L_law 28 = .ok (.isub, 1) := by decide +kernel
theorem d_L_law_29 : decode b_L_law 29 = .ok (.if_icmp .gt 682, 3) := by decide +kernel
theorem d_L_law_32 : decode b_L_law 32 = .ok (.aload_n 0, 1) := by decide +kernel
theorem d_L_law_33 : decode b_L_law 33 = .ok (.iload 4, 2) := by decide +kernel
theorem d_L_law_35 : decode b_L_law 35 = .ok (.iaload, 1) := by decide +kernel
theorem d_L_law_36 : decode b_L_law 36 = .ok (.bipush 15, 2) := by decide +kernel
theorem d_L_law_38 : decode b_L_law 38 = .ok (.iand, 1) := by decide +kernel
theorem d_L_law_39 : decode b_L_law 39 = .ok (.tableswitch 666 0 14 #[73, 110, 123, 179, 204, 260, 316, 388, 441, 466, 491, 530, 567, 604, 641], 73) := by decide +kernel
theorem d_L_law_112 : decode b_L_law 112 = .ok (.aload_n 1, 1) := by decide +kernel
theorem d_L_law_113 : decode b_L_law 113 = .ok (.aload_n 0, 1) := by decide +kernel
theorem d_L_law_114 : decode b_L_law 114 = .ok (.iload 4, 2) := by decide +kernel
theorem d_L_law_116 : decode b_L_law 116 = .ok (.iconst 1, 1) := by decide +kernel
theorem d_L_law_117 : decode b_L_law 117 = .ok (.iadd, 1) := by decide +kernel
theorem d_L_law_118 : decode b_L_law 118 = .ok (.iaload, 1) := by decide +kernel
theorem d_L_law_119 : decode b_L_law 119 = .ok (.aload_n 0, 1) := by decide +kernel
theorem d_L_law_120 : decode b_L_law 120 = .ok (.iload 4, 2) := by decide +kernel
theorem d_L_law_122 : decode b_L_law 122 = .ok (.iconst 2, 1) := by decide +kernel
theorem d_L_law_123 : decode b_L_law 123 = .ok (.iadd, 1) := by decide +kernel
theorem d_L_law_124 : decode b_L_law 124 = .ok (.iaload, 1) := by decide +kernel
theorem d_L_law_125 : decode b_L_law 125 = .ok (.invokevirtual 33, 3) := by decide +kernel
theorem d_L_law_128 : decode b_L_law 128 = .ok (.aload_n 2, 1) := by decide +kernel
theorem d_L_law_129 : decode b_L_law 129 = .ok (.aload_n 0, 1) := by decide +kernel
theorem d_L_law_130 : decode b_L_law 130 = .ok (.iload 4, 2) := by decide +kernel
theorem d_L_law_132 : decode b_L_law 132 = .ok (.iconst 1, 1) := by decide +kernel
theorem d_L_law_133 : decode b_L_law 133 = .ok (.iadd, 1) := by decide +kernel
theorem d_L_law_134 : decode b_L_law 134 = .ok (.iaload, 1) := by decide +kernel
theorem d_L_law_135 : decode b_L_law 135 = .ok (.aload_n 0, 1) := by decide +kernel
theorem d_L_law_136 : decode b_L_law 136 = .ok (.iload 4, 2) := by decide +kernel
theorem d_L_law_138 : decode b_L_law 138 = .ok (.iconst 2, 1) := by decide +kernel
theorem d_L_law_139 : decode b_L_law 139 = .ok (.iadd, 1) := by decide +kernel
theorem d_L_law_140 : decode b_L_law 140 = .ok (.iaload, 1) := by decide +kernel
theorem d_L_law_141 : decode b_L_law 141 = .ok (.invokevirtual 37, 3) := by decide +kernel
theorem d_L_law_144 : decode b_L_law 144 = .ok (.if_icmp .eq 561, 3) := by decide +kernel
theorem d_L_law_147 : decode b_L_law 147 = .ok (.iconst 0, 1) := by decide +kernel
theorem d_L_law_148 : decode b_L_law 148 = .ok (.ireturn, 1) := by decide +kernel
theorem d_L_law_149 : decode b_L_law 149 = .ok (.aload_n 1, 1) := by decide +kernel
theorem d_L_law_150 : decode b_L_law 150 = .ok (.invokevirtual 38, 3) := by decide +kernel
theorem d_L_law_153 : decode b_L_law 153 = .ok (.aload_n 2, 1) := by decide +kernel
theorem d_L_law_154 : decode b_L_law 154 = .ok (.invokevirtual 42, 3) := by decide +kernel
theorem d_L_law_157 : decode b_L_law 157 = .ok (.if_icmp .eq 548, 3) := by decide +kernel
theorem d_L_law_160 : decode b_L_law 160 = .ok (.iconst 0, 1) := by decide +kernel
theorem d_L_law_161 : decode b_L_law 161 = .ok (.ireturn, 1) := by decide +kernel
theorem d_L_law_162 : decode b_L_law 162 = .ok (.aload_n 1, 1) := by decide +kernel
theorem d_L_law_163 : decode b_L_law 163 = .ok (.aload_n 0, 1) := by decide +kernel
theorem d_L_law_164 : decode b_L_law 164 = .ok (.iload 4, 2) := by decide +kernel
theorem d_L_law_166 : decode b_L_law 166 = .ok (.iconst 1, 1) := by decide +kernel
theorem d_L_law_167 : decode b_L_law 167 = .ok (.iadd, 1) := by decide +kernel
theorem d_L_law_168 : decode b_L_law 168 = .ok (.iaload, 1) := by decide +kernel
theorem d_L_law_169 : decode b_L_law 169 = .ok (.aload_n 3, 1) := by decide +kernel
theorem d_L_law_170 : decode b_L_law 170 = .ok (.invokestatic 43, 3) := by decide +kernel
theorem d_L_law_173 : decode b_L_law 173 = .ok (.istore 5, 2) := by decide +kernel
theorem d_L_law_175 : decode b_L_law 175 = .ok (.aload_n 2, 1) := by decide +kernel
theorem d_L_law_176 : decode b_L_law 176 = .ok (.aload_n 0, 1) := by decide +kernel
theorem d_L_law_177 : decode b_L_law 177 = .ok (.iload 4, 2) := by decide +kernel
theorem d_L_law_179 : decode b_L_law 179 = .ok (.iconst 1, 1) := by decide +kernel
theorem d_L_law_180 : decode b_L_law 180 = .ok (.iadd, 1) := by decide +kernel
theorem d_L_law_181 : decode b_L_law 181 = .ok (.iaload, 1) := by decide +kernel
theorem d_L_law_182 : decode b_L_law 182 = .ok (.invokevirtual 48, 3) := by decide +kernel
theorem d_L_law_185 : decode b_L_law 185 = .ok (.istore 6, 2) := by decide +kernel
theorem d_L_law_187 : decode b_L_law 187 = .ok (.aload_n 2, 1) := by decide +kernel
theorem d_L_law_188 : decode b_L_law 188 = .ok (.invokevirtual 49, 3) := by decide +kernel
theorem d_L_law_191 : decode b_L_law 191 = .ok (.iload 5, 2) := by decide +kernel
theorem d_L_law_193 : decode b_L_law 193 = .ok (.if_icmp .eq 5, 3) := by decide +kernel
theorem d_L_law_196 : decode b_L_law 196 = .ok (.iconst 0, 1) := by decide +kernel
theorem d_L_law_197 : decode b_L_law 197 = .ok (.ireturn, 1) := by decide +kernel
theorem d_L_law_198 : decode b_L_law 198 = .ok (.iload 5, 2) := by decide +kernel
theorem d_L_law_200 : decode b_L_law 200 = .ok (.ifCond .ne 15, 3) := by decide +kernel
theorem d_L_law_203 : decode b_L_law 203 = .ok (.aload_n 3, 1) := by decide +kernel
theorem d_L_law_204 : decode b_L_law 204 = .ok (.iconst 0, 1) := by decide +kernel
theorem d_L_law_205 : decode b_L_law 205 = .ok (.laload, 1) := by decide +kernel
theorem d_L_law_206 : decode b_L_law 206 = .ok (.iload 6, 2) := by decide +kernel
theorem d_L_law_208 : decode b_L_law 208 = .ok (.i2l, 1) := by decide +kernel
theorem d_L_law_209 : decode b_L_law 209 = .ok (.lcmp, 1) := by decide +kernel
theorem d_L_law_210 : decode b_L_law 210 = .ok (.ifCond .eq 5, 3) := by decide +kernel
theorem d_L_law_213 : decode b_L_law 213 = .ok (.iconst 0, 1) := by decide +kernel
theorem d_L_law_214 : decode b_L_law 214 = .ok (.ireturn, 1) := by decide +kernel
theorem d_L_law_215 : decode b_L_law 215 = .ok (.goto 490, 3) := by decide +kernel
theorem d_L_law_218 : decode b_L_law 218 = .ok (.aload_n 1, 1) := by decide +kernel
theorem d_L_law_219 : decode b_L_law 219 = .ok (.aload_n 0, 1) := by decide +kernel
theorem d_L_law_220 : decode b_L_law 220 = .ok (.iload 4, 2) := by decide +kernel
theorem d_L_law_222 : decode b_L_law 222 = .ok (.iconst 1, 1) := by decide +kernel
theorem d_L_law_223 : decode b_L_law 223 = .ok (.iadd, 1) := by decide +kernel
theorem d_L_law_224 : decode b_L_law 224 = .ok (.iaload, 1) := by decide +kernel
theorem d_L_law_225 : decode b_L_law 225 = .ok (.invokevirtual 53, 3) := by decide +kernel
theorem d_L_law_228 : decode b_L_law 228 = .ok (.aload_n 2, 1) := by decide +kernel
theorem d_L_law_229 : decode b_L_law 229 = .ok (.aload_n 0, 1) := by decide +kernel
theorem d_L_law_230 : decode b_L_law 230 = .ok (.iload 4, 2) := by decide +kernel
theorem d_L_law_232 : decode b_L_law 232 = .ok (.iconst 1, 1) := by decide +kernel
theorem d_L_law_233 : decode b_L_law 233 = .ok (.iadd, 1) := by decide +kernel
theorem d_L_law_234 : decode b_L_law 234 = .ok (.iaload, 1) := by decide +kernel
theorem d_L_law_235 : decode b_L_law 235 = .ok (.invokevirtual 57, 3) := by decide +kernel
theorem d_L_law_238 : decode b_L_law 238 = .ok (.if_icmp .eq 467, 3) := by decide +kernel
theorem d_L_law_241 : decode b_L_law 241 = .ok (.iconst 0, 1) := by decide +kernel
theorem d_L_law_242 : decode b_L_law 242 = .ok (.ireturn, 1) := by decide +kernel
theorem d_L_law_243 : decode b_L_law 243 = .ok (.aload_n 1, 1) := by decide +kernel
theorem d_L_law_244 : decode b_L_law 244 = .ok (.aload_n 0, 1) := by decide +kernel
theorem d_L_law_245 : decode b_L_law 245 = .ok (.iload 4, 2) := by decide +kernel
theorem d_L_law_247 : decode b_L_law 247 = .ok (.iconst 1, 1) := by decide +kernel
theorem d_L_law_248 : decode b_L_law 248 = .ok (.iadd, 1) := by decide +kernel
theorem d_L_law_249 : decode b_L_law 249 = .ok (.iaload, 1) := by decide +kernel
theorem d_L_law_250 : decode b_L_law 250 = .ok (.aload_n 3, 1) := by decide +kernel
theorem d_L_law_251 : decode b_L_law 251 = .ok (.invokestatic 58, 3) := by decide +kernel
theorem d_L_law_254 : decode b_L_law 254 = .ok (.istore 5, 2) := by decide +kernel
theorem d_L_law_256 : decode b_L_law 256 = .ok (.aload_n 2, 1) := by decide +kernel
theorem d_L_law_257 : decode b_L_law 257 = .ok (.aload_n 0, 1) := by decide +kernel
theorem d_L_law_258 : decode b_L_law 258 = .ok (.iload 4, 2) := by decide +kernel
theorem d_L_law_260 : decode b_L_law 260 = .ok (.iconst 1, 1) := by decide +kernel
theorem d_L_law_261 : decode b_L_law 261 = .ok (.iadd, 1) := by decide +kernel
theorem d_L_law_262 : decode b_L_law 262 = .ok (.iaload, 1) := by decide +kernel
theorem d_L_law_263 : decode b_L_law 263 = .ok (.invokevirtual 60, 3) := by decide +kernel
theorem d_L_law_266 : decode b_L_law 266 = .ok (.istore 6, 2) := by decide +kernel
theorem d_L_law_268 : decode b_L_law 268 = .ok (.aload_n 2, 1) := by decide +kernel
theorem d_L_law_269 : decode b_L_law 269 = .ok (.invokevirtual 49, 3) := by decide +kernel
theorem d_L_law_272 : decode b_L_law 272 = .ok (.iload 5, 2) := by decide +kernel
theorem d_L_law_274 : decode b_L_law 274 = .ok (.if_icmp .eq 5, 3) := by decide +kernel
theorem d_L_law_277 : decode b_L_law 277 = .ok (.iconst 0, 1) := by decide +kernel
theorem d_L_law_278 : decode b_L_law 278 = .ok (.ireturn, 1) := by decide +kernel
theorem d_L_law_279 : decode b_L_law 279 = .ok (.iload 5, 2) := by decide +kernel
theorem d_L_law_281 : decode b_L_law 281 = .ok (.ifCond .ne 15, 3) := by decide +kernel
theorem d_L_law_284 : decode b_L_law 284 = .ok (.aload_n 3, 1) := by decide +kernel
theorem d_L_law_285 : decode b_L_law 285 = .ok (.iconst 0, 1) := by decide +kernel
theorem d_L_law_286 : decode b_L_law 286 = .ok (.laload, 1) := by decide +kernel
theorem d_L_law_287 : decode b_L_law 287 = .ok (.iload 6, 2) := by decide +kernel
theorem d_L_law_289 : decode b_L_law 289 = .ok (.i2l, 1) := by decide +kernel
theorem d_L_law_290 : decode b_L_law 290 = .ok (.lcmp, 1) := by decide +kernel
theorem d_L_law_291 : decode b_L_law 291 = .ok (.ifCond .eq 5, 3) := by decide +kernel
theorem d_L_law_294 : decode b_L_law 294 = .ok (.iconst 0, 1) := by decide +kernel
theorem d_L_law_295 : decode b_L_law 295 = .ok (.ireturn, 1) := by decide +kernel
theorem d_L_law_296 : decode b_L_law 296 = .ok (.goto 409, 3) := by decide +kernel
theorem d_L_law_299 : decode b_L_law 299 = .ok (.aload_n 1, 1) := by decide +kernel
theorem d_L_law_300 : decode b_L_law 300 = .ok (.aload_n 0, 1) := by decide +kernel
theorem d_L_law_301 : decode b_L_law 301 = .ok (.iload 4, 2) := by decide +kernel
theorem d_L_law_303 : decode b_L_law 303 = .ok (.iconst 1, 1) := by decide +kernel
theorem d_L_law_304 : decode b_L_law 304 = .ok (.iadd, 1) := by decide +kernel
theorem d_L_law_305 : decode b_L_law 305 = .ok (.iaload, 1) := by decide +kernel
theorem d_L_law_306 : decode b_L_law 306 = .ok (.aload_n 3, 1) := by decide +kernel
theorem d_L_law_307 : decode b_L_law 307 = .ok (.invokestatic 61, 3) := by decide +kernel
theorem d_L_law_310 : decode b_L_law 310 = .ok (.istore 5, 2) := by decide +kernel
theorem d_L_law_312 : decode b_L_law 312 = .ok (.aload_n 2, 1) := by decide +kernel
theorem d_L_law_313 : decode b_L_law 313 = .ok (.aload_n 0, 1) := by decide +kernel
theorem d_L_law_314 : decode b_L_law 314 = .ok (.iload 4, 2) := by decide +kernel
theorem d_L_law_316 : decode b_L_law 316 = .ok (.iconst 1, 1) := by decide +kernel
theorem d_L_law_317 : decode b_L_law 317 = .ok (.iadd, 1) := by decide +kernel
theorem d_L_law_318 : decode b_L_law 318 = .ok (.iaload, 1) := by decide +kernel
theorem d_L_law_319 : decode b_L_law 319 = .ok (.invokevirtual 63, 3) := by decide +kernel
theorem d_L_law_322 : decode b_L_law 322 = .ok (.istore 6, 2) := by decide +kernel
theorem d_L_law_324 : decode b_L_law 324 = .ok (.aload_n 2, 1) := by decide +kernel
theorem d_L_law_325 : decode b_L_law 325 = .ok (.invokevirtual 49, 3) := by decide +kernel
theorem d_L_law_328 : decode b_L_law 328 = .ok (.iload 5, 2) := by decide +kernel
theorem d_L_law_330 : decode b_L_law 330 = .ok (.if_icmp .eq 5, 3) := by decide +kernel
theorem d_L_law_333 : decode b_L_law 333 = .ok (.iconst 0, 1) := by decide +kernel
theorem d_L_law_334 : decode b_L_law 334 = .ok (.ireturn, 1) := by decide +kernel
theorem d_L_law_335 : decode b_L_law 335 = .ok (.iload 5, 2) := by decide +kernel
theorem d_L_law_337 : decode b_L_law 337 = .ok (.ifCond .ne 15, 3) := by decide +kernel
theorem d_L_law_340 : decode b_L_law 340 = .ok (.aload_n 3, 1) := by decide +kernel
theorem d_L_law_341 : decode b_L_law 341 = .ok (.iconst 0, 1) := by decide +kernel
theorem d_L_law_342 : decode b_L_law 342 = .ok (.laload, 1) := by decide +kernel
theorem d_L_law_343 : decode b_L_law 343 = .ok (.iload 6, 2) := by decide +kernel
theorem d_L_law_345 : decode b_L_law 345 = .ok (.i2l, 1) := by decide +kernel
theorem d_L_law_346 : decode b_L_law 346 = .ok (.lcmp, 1) := by decide +kernel
theorem d_L_law_347 : decode b_L_law 347 = .ok (.ifCond .eq 5, 3) := by decide +kernel
theorem d_L_law_350 : decode b_L_law 350 = .ok (.iconst 0, 1) := by decide +kernel
theorem d_L_law_351 : decode b_L_law 351 = .ok (.ireturn, 1) := by decide +kernel
theorem d_L_law_352 : decode b_L_law 352 = .ok (.goto 353, 3) := by decide +kernel
theorem d_L_law_355 : decode b_L_law 355 = .ok (.aload_n 1, 1) := by decide +kernel
theorem d_L_law_356 : decode b_L_law 356 = .ok (.aload_n 0, 1) := by decide +kernel
theorem d_L_law_357 : decode b_L_law 357 = .ok (.iload 4, 2) := by decide +kernel
theorem d_L_law_359 : decode b_L_law 359 = .ok (.iconst 1, 1) := by decide +kernel
theorem d_L_law_360 : decode b_L_law 360 = .ok (.iadd, 1) := by decide +kernel
theorem d_L_law_361 : decode b_L_law 361 = .ok (.iaload, 1) := by decide +kernel
theorem d_L_law_362 : decode b_L_law 362 = .ok (.aload_n 0, 1) := by decide +kernel
theorem d_L_law_363 : decode b_L_law 363 = .ok (.iload 4, 2) := by decide +kernel
theorem d_L_law_365 : decode b_L_law 365 = .ok (.iconst 2, 1) := by decide +kernel
theorem d_L_law_366 : decode b_L_law 366 = .ok (.iadd, 1) := by decide +kernel
theorem d_L_law_367 : decode b_L_law 367 = .ok (.iaload, 1) := by decide +kernel
theorem d_L_law_368 : decode b_L_law 368 = .ok (.aload_n 0, 1) := by decide +kernel
theorem d_L_law_369 : decode b_L_law 369 = .ok (.iload 4, 2) := by decide +kernel
theorem d_L_law_371 : decode b_L_law 371 = .ok (.iconst 3, 1) := by decide +kernel
theorem d_L_law_372 : decode b_L_law 372 = .ok (.iadd, 1) := by decide +kernel
theorem d_L_law_373 : decode b_L_law 373 = .ok (.iaload, 1) := by decide +kernel
theorem d_L_law_374 : decode b_L_law 374 = .ok (.aload_n 0, 1) := by decide +kernel
theorem d_L_law_375 : decode b_L_law 375 = .ok (.iload 4, 2) := by decide +kernel
theorem d_L_law_377 : decode b_L_law 377 = .ok (.iconst 4, 1) := by decide +kernel
theorem d_L_law_378 : decode b_L_law 378 = .ok (.iadd, 1) := by decide +kernel
theorem d_L_law_379 : decode b_L_law 379 = .ok (.iaload, 1) := by decide +kernel
theorem d_L_law_380 : decode b_L_law 380 = .ok (.invokestatic 64, 3) := by decide +kernel
theorem d_L_law_383 : decode b_L_law 383 = .ok (.istore 5, 2) := by decide +kernel
theorem d_L_law_385 : decode b_L_law 385 = .ok (.aload_n 2, 1) := by decide +kernel
theorem d_L_law_386 : decode b_L_law 386 = .ok (.aload_n 0, 1) := by decide +kernel
theorem d_L_law_387 : decode b_L_law 387 = .ok (.iload 4, 2) := by decide +kernel
theorem d_L_law_389 : decode b_L_law 389 = .ok (.iconst 1, 1) := by decide +kernel
theorem d_L_law_390 : decode b_L_law 390 = .ok (.iadd, 1) := by decide +kernel
theorem d_L_law_391 : decode b_L_law 391 = .ok (.iaload, 1) := by decide +kernel
theorem d_L_law_392 : decode b_L_law 392 = .ok (.aload_n 0, 1) := by decide +kernel
theorem d_L_law_393 : decode b_L_law 393 = .ok (.iload 4, 2) := by decide +kernel
theorem d_L_law_395 : decode b_L_law 395 = .ok (.iconst 2, 1) := by decide +kernel
theorem d_L_law_396 : decode b_L_law 396 = .ok (.iadd, 1) := by decide +kernel
theorem d_L_law_397 : decode b_L_law 397 = .ok (.iaload, 1) := by decide +kernel
theorem d_L_law_398 : decode b_L_law 398 = .ok (.aload_n 0, 1) := by decide +kernel
theorem d_L_law_399 : decode b_L_law 399 = .ok (.iload 4, 2) := by decide +kernel
theorem d_L_law_401 : decode b_L_law 401 = .ok (.iconst 3, 1) := by decide +kernel
theorem d_L_law_402 : decode b_L_law 402 = .ok (.iadd, 1) := by decide +kernel
theorem d_L_law_403 : decode b_L_law 403 = .ok (.iaload, 1) := by decide +kernel
theorem d_L_law_404 : decode b_L_law 404 = .ok (.aload_n 0, 1) := by decide +kernel
theorem d_L_law_405 : decode b_L_law 405 = .ok (.iload 4, 2) := by decide +kernel
theorem d_L_law_407 : decode b_L_law 407 = .ok (.iconst 4, 1) := by decide +kernel
theorem d_L_law_408 : decode b_L_law 408 = .ok (.iadd, 1) := by decide +kernel
theorem d_L_law_409 : decode b_L_law 409 = .ok (.iaload, 1) := by decide +kernel
theorem d_L_law_410 : decode b_L_law 410 = .ok (.invokevirtual 67, 3) := by decide +kernel
theorem d_L_law_413 : decode b_L_law 413 = .ok (.aload_n 2, 1) := by decide +kernel
theorem d_L_law_414 : decode b_L_law 414 = .ok (.invokevirtual 49, 3) := by decide +kernel
theorem d_L_law_417 : decode b_L_law 417 = .ok (.iload 5, 2) := by decide +kernel
theorem d_L_law_419 : decode b_L_law 419 = .ok (.if_icmp .eq 5, 3) := by decide +kernel
theorem d_L_law_422 : decode b_L_law 422 = .ok (.iconst 0, 1) := by decide +kernel
theorem d_L_law_423 : decode b_L_law 423 = .ok (.ireturn, 1) := by decide +kernel
theorem d_L_law_424 : decode b_L_law 424 = .ok (.goto 281, 3) := by decide +kernel
theorem d_L_law_427 : decode b_L_law 427 = .ok (.aload_n 1, 1) := by decide +kernel
theorem d_L_law_428 : decode b_L_law 428 = .ok (.aload_n 0, 1) := by decide +kernel
theorem d_L_law_429 : decode b_L_law 429 = .ok (.iload 4, 2) := by decide +kernel
theorem d_L_law_431 : decode b_L_law 431 = .ok (.iconst 1, 1) := by decide +kernel
theorem d_L_law_432 : decode b_L_law 432 = .ok (.iadd, 1) := by decide +kernel
theorem d_L_law_433 : decode b_L_law 433 = .ok (.iaload, 1) := by decide +kernel
theorem d_L_law_434 : decode b_L_law 434 = .ok (.aload_n 0, 1) := by decide +kernel
theorem d_L_law_435 : decode b_L_law 435 = .ok (.iload 4, 2) := by decide +kernel
theorem d_L_law_437 : decode b_L_law 437 = .ok (.iconst 2, 1) := by decide +kernel
theorem d_L_law_438 : decode b_L_law 438 = .ok (.iadd, 1) := by decide +kernel
theorem d_L_law_439 : decode b_L_law 439 = .ok (.iaload, 1) := by decide +kernel
theorem d_L_law_440 : decode b_L_law 440 = .ok (.ifCond .eq 7, 3) := by decide +kernel
theorem d_L_law_443 : decode b_L_law 443 = .ok (.iconst 1, 1) := by decide +kernel
theorem d_L_law_444 : decode b_L_law 444 = .ok (.goto 4, 3) := by decide +kernel
theorem d_L_law_447 : decode b_L_law 447 = .ok (.iconst 0, 1) := by decide +kernel
theorem d_L_law_448 : decode b_L_law 448 = .ok (.invokevirtual 68, 3) := by decide +kernel
theorem d_L_law_451 : decode b_L_law 451 = .ok (.aload_n 2, 1) := by decide +kernel
theorem d_L_law_452 : decode b_L_law 452 = .ok (.aload_n 0, 1) := by decide +kernel
theorem d_L_law_453 : decode b_L_law 453 = .ok (.iload 4, 2) := by decide +kernel
theorem d_L_law_455 : decode b_L_law 455 = .ok (.iconst 1, 1) := by decide +kernel
theorem d_L_law_456 : decode b_L_law 456 = .ok (.iadd, 1) := by decide +kernel
theorem d_L_law_457 : decode b_L_law 457 = .ok (.iaload, 1) := by decide +kernel
theorem d_L_law_458 : decode b_L_law 458 = .ok (.aload_n 0, 1) := by decide +kernel
theorem d_L_law_459 : decode b_L_law 459 = .ok (.iload 4, 2) := by decide +kernel
theorem d_L_law_461 : decode b_L_law 461 = .ok (.iconst 2, 1) := by decide +kernel
theorem d_L_law_462 : decode b_L_law 462 = .ok (.iadd, 1) := by decide +kernel
theorem d_L_law_463 : decode b_L_law 463 = .ok (.iaload, 1) := by decide +kernel
theorem d_L_law_464 : decode b_L_law 464 = .ok (.ifCond .eq 7, 3) := by decide +kernel
theorem d_L_law_467 : decode b_L_law 467 = .ok (.iconst 1, 1) := by decide +kernel
theorem d_L_law_468 : decode b_L_law 468 = .ok (.goto 4, 3) := by decide +kernel
theorem d_L_law_471 : decode b_L_law 471 = .ok (.iconst 0, 1) := by decide +kernel
theorem d_L_law_472 : decode b_L_law 472 = .ok (.invokevirtual 72, 3) := by decide +kernel
theorem d_L_law_475 : decode b_L_law 475 = .ok (.if_icmp .eq 230, 3) := by decide +kernel
theorem d_L_law_478 : decode b_L_law 478 = .ok (.iconst 0, 1) := by decide +kernel
theorem d_L_law_479 : decode b_L_law 479 = .ok (.ireturn, 1) := by decide +kernel
theorem d_L_law_480 : decode b_L_law 480 = .ok (.aload_n 1, 1) := by decide +kernel
theorem d_L_law_481 : decode b_L_law 481 = .ok (.aload_n 0, 1) := by decide +kernel
theorem d_L_law_482 : decode b_L_law 482 = .ok (.iload 4, 2) := by decide +kernel
theorem d_L_law_484 : decode b_L_law 484 = .ok (.iconst 1, 1) := by decide +kernel
theorem d_L_law_485 : decode b_L_law 485 = .ok (.iadd, 1) := by decide +kernel
theorem d_L_law_486 : decode b_L_law 486 = .ok (.iaload, 1) := by decide +kernel
theorem d_L_law_487 : decode b_L_law 487 = .ok (.invokevirtual 73, 3) := by decide +kernel
theorem d_L_law_490 : decode b_L_law 490 = .ok (.aload_n 2, 1) := by decide +kernel
theorem d_L_law_491 : decode b_L_law 491 = .ok (.aload_n 0, 1) := by decide +kernel
theorem d_L_law_492 : decode b_L_law 492 = .ok (.iload 4, 2) := by decide +kernel
theorem d_L_law_494 : decode b_L_law 494 = .ok (.iconst 1, 1) := by decide +kernel
theorem d_L_law_495 : decode b_L_law 495 = .ok (.iadd, 1) := by decide +kernel
theorem d_L_law_496 : decode b_L_law 496 = .ok (.iaload, 1) := by decide +kernel
theorem d_L_law_497 : decode b_L_law 497 = .ok (.invokevirtual 76, 3) := by decide +kernel
theorem d_L_law_500 : decode b_L_law 500 = .ok (.if_icmp .eq 205, 3) := by decide +kernel
theorem d_L_law_503 : decode b_L_law 503 = .ok (.iconst 0, 1) := by decide +kernel
theorem d_L_law_504 : decode b_L_law 504 = .ok (.ireturn, 1) := by decide +kernel
theorem d_L_law_505 : decode b_L_law 505 = .ok (.aload_n 1, 1) := by decide +kernel
theorem d_L_law_506 : decode b_L_law 506 = .ok (.aload_n 0, 1) := by decide +kernel
theorem d_L_law_507 : decode b_L_law 507 = .ok (.iload 4, 2) := by decide +kernel
theorem d_L_law_509 : decode b_L_law 509 = .ok (.iconst 1, 1) := by decide +kernel
theorem d_L_law_510 : decode b_L_law 510 = .ok (.iadd, 1) := by decide +kernel
theorem d_L_law_511 : decode b_L_law 511 = .ok (.iaload, 1) := by decide +kernel
theorem d_L_law_512 : decode b_L_law 512 = .ok (.invokevirtual 77, 3) := by decide +kernel
theorem d_L_law_515 : decode b_L_law 515 = .ok (.aload_n 2, 1) := by decide +kernel
theorem d_L_law_516 : decode b_L_law 516 = .ok (.aload_n 0, 1) := by decide +kernel
theorem d_L_law_517 : decode b_L_law 517 = .ok (.iload 4, 2) := by decide +kernel
theorem d_L_law_519 : decode b_L_law 519 = .ok (.iconst 1, 1) := by decide +kernel
theorem d_L_law_520 : decode b_L_law 520 = .ok (.iadd, 1) := by decide +kernel
theorem d_L_law_521 : decode b_L_law 521 = .ok (.iaload, 1) := by decide +kernel
theorem d_L_law_522 : decode b_L_law 522 = .ok (.invokevirtual 80, 3) := by decide +kernel
theorem d_L_law_525 : decode b_L_law 525 = .ok (.if_icmp .eq 180, 3) := by decide +kernel
theorem d_L_law_528 : decode b_L_law 528 = .ok (.iconst 0, 1) := by decide +kernel
theorem d_L_law_529 : decode b_L_law 529 = .ok (.ireturn, 1) := by decide +kernel
theorem d_L_law_530 : decode b_L_law 530 = .ok (.aload_n 1, 1) := by decide +kernel
theorem d_L_law_531 : decode b_L_law 531 = .ok (.aload_n 0, 1) := by decide +kernel
theorem d_L_law_532 : decode b_L_law 532 = .ok (.iload 4, 2) := by decide +kernel
theorem d_L_law_534 : decode b_L_law 534 = .ok (.iconst 1, 1) := by decide +kernel
theorem d_L_law_535 : decode b_L_law 535 = .ok (.iadd, 1) := by decide +kernel
theorem d_L_law_536 : decode b_L_law 536 = .ok (.iaload, 1) := by decide +kernel
theorem d_L_law_537 : decode b_L_law 537 = .ok (.ifCond .eq 7, 3) := by decide +kernel
theorem d_L_law_540 : decode b_L_law 540 = .ok (.iconst 1, 1) := by decide +kernel
theorem d_L_law_541 : decode b_L_law 541 = .ok (.goto 4, 3) := by decide +kernel
theorem d_L_law_544 : decode b_L_law 544 = .ok (.iconst 0, 1) := by decide +kernel
theorem d_L_law_545 : decode b_L_law 545 = .ok (.invokevirtual 81, 3) := by decide +kernel
theorem d_L_law_548 : decode b_L_law 548 = .ok (.aload_n 2, 1) := by decide +kernel
theorem d_L_law_549 : decode b_L_law 549 = .ok (.aload_n 0, 1) := by decide +kernel
theorem d_L_law_550 : decode b_L_law 550 = .ok (.iload 4, 2) := by decide +kernel
theorem d_L_law_552 : decode b_L_law 552 = .ok (.iconst 1, 1) := by decide +kernel
theorem d_L_law_553 : decode b_L_law 553 = .ok (.iadd, 1) := by decide +kernel
theorem d_L_law_554 : decode b_L_law 554 = .ok (.iaload, 1) := by decide +kernel
theorem d_L_law_555 : decode b_L_law 555 = .ok (.ifCond .eq 7, 3) := by decide +kernel
theorem d_L_law_558 : decode b_L_law 558 = .ok (.iconst 1, 1) := by decide +kernel
theorem d_L_law_559 : decode b_L_law 559 = .ok (.goto 4, 3) := by decide +kernel
theorem d_L_law_562 : decode b_L_law 562 = .ok (.iconst 0, 1) := by decide +kernel
theorem d_L_law_563 : decode b_L_law 563 = .ok (.invokevirtual 85, 3) := by decide +kernel
theorem d_L_law_566 : decode b_L_law 566 = .ok (.goto 139, 3) := by decide +kernel
theorem d_L_law_569 : decode b_L_law 569 = .ok (.aload_n 1, 1) := by decide +kernel
theorem d_L_law_570 : decode b_L_law 570 = .ok (.aload_n 0, 1) := by decide +kernel
theorem d_L_law_571 : decode b_L_law 571 = .ok (.iload 4, 2) := by decide +kernel
theorem d_L_law_573 : decode b_L_law 573 = .ok (.iconst 1, 1) := by decide +kernel
theorem d_L_law_574 : decode b_L_law 574 = .ok (.iadd, 1) := by decide +kernel
theorem d_L_law_575 : decode b_L_law 575 = .ok (.iaload, 1) := by decide +kernel
theorem d_L_law_576 : decode b_L_law 576 = .ok (.aload_n 0, 1) := by decide +kernel
theorem d_L_law_577 : decode b_L_law 577 = .ok (.iload 4, 2) := by decide +kernel
theorem d_L_law_579 : decode b_L_law 579 = .ok (.iconst 2, 1) := by decide +kernel
theorem d_L_law_580 : decode b_L_law 580 = .ok (.iadd, 1) := by decide +kernel
theorem d_L_law_581 : decode b_L_law 581 = .ok (.iaload, 1) := by decide +kernel
theorem d_L_law_582 : decode b_L_law 582 = .ok (.invokevirtual 86, 3) := by decide +kernel
theorem d_L_law_585 : decode b_L_law 585 = .ok (.aload_n 2, 1) := by decide +kernel
theorem d_L_law_586 : decode b_L_law 586 = .ok (.aload_n 0, 1) := by decide +kernel
theorem d_L_law_587 : decode b_L_law 587 = .ok (.iload 4, 2) := by decide +kernel
theorem d_L_law_589 : decode b_L_law 589 = .ok (.iconst 1, 1) := by decide +kernel
theorem d_L_law_590 : decode b_L_law 590 = .ok (.iadd, 1) := by decide +kernel
theorem d_L_law_591 : decode b_L_law 591 = .ok (.iaload, 1) := by decide +kernel
theorem d_L_law_592 : decode b_L_law 592 = .ok (.aload_n 0, 1) := by decide +kernel
theorem d_L_law_593 : decode b_L_law 593 = .ok (.iload 4, 2) := by decide +kernel
theorem d_L_law_595 : decode b_L_law 595 = .ok (.iconst 2, 1) := by decide +kernel
theorem d_L_law_596 : decode b_L_law 596 = .ok (.iadd, 1) := by decide +kernel
theorem d_L_law_597 : decode b_L_law 597 = .ok (.iaload, 1) := by decide +kernel
theorem d_L_law_598 : decode b_L_law 598 = .ok (.invokevirtual 90, 3) := by decide +kernel
theorem d_L_law_601 : decode b_L_law 601 = .ok (.if_icmp .eq 104, 3) := by decide +kernel
theorem d_L_law_604 : decode b_L_law 604 = .ok (.iconst 0, 1) := by decide +kernel
theorem d_L_law_605 : decode b_L_law 605 = .ok (.ireturn, 1) := by decide +kernel
theorem d_L_law_606 : decode b_L_law 606 = .ok (.aload_n 1, 1) := by decide +kernel
theorem d_L_law_607 : decode b_L_law 607 = .ok (.aload_n 0, 1) := by decide +kernel
theorem d_L_law_608 : decode b_L_law 608 = .ok (.iload 4, 2) := by decide +kernel
theorem d_L_law_610 : decode b_L_law 610 = .ok (.iconst 1, 1) := by decide +kernel
theorem d_L_law_611 : decode b_L_law 611 = .ok (.iadd, 1) := by decide +kernel
theorem d_L_law_612 : decode b_L_law 612 = .ok (.iaload, 1) := by decide +kernel
theorem d_L_law_613 : decode b_L_law 613 = .ok (.aload_n 0, 1) := by decide +kernel
theorem d_L_law_614 : decode b_L_law 614 = .ok (.iload 4, 2) := by decide +kernel
theorem d_L_law_616 : decode b_L_law 616 = .ok (.iconst 2, 1) := by decide +kernel
theorem d_L_law_617 : decode b_L_law 617 = .ok (.iadd, 1) := by decide +kernel
theorem d_L_law_618 : decode b_L_law 618 = .ok (.iaload, 1) := by decide +kernel
theorem d_L_law_619 : decode b_L_law 619 = .ok (.invokevirtual 91, 3) := by decide +kernel
theorem d_L_law_622 : decode b_L_law 622 = .ok (.aload_n 2, 1) := by decide +kernel
theorem d_L_law_623 : decode b_L_law 623 = .ok (.aload_n 0, 1) := by decide +kernel
theorem d_L_law_624 : decode b_L_law 624 = .ok (.iload 4, 2) := by decide +kernel
theorem d_L_law_626 : decode b_L_law 626 = .ok (.iconst 1, 1) := by decide +kernel
theorem d_L_law_627 : decode b_L_law 627 = .ok (.iadd, 1) := by decide +kernel
theorem d_L_law_628 : decode b_L_law 628 = .ok (.iaload, 1) := by decide +kernel
theorem d_L_law_629 : decode b_L_law 629 = .ok (.aload_n 0, 1) := by decide +kernel
theorem d_L_law_630 : decode b_L_law 630 = .ok (.iload 4, 2) := by decide +kernel
theorem d_L_law_632 : decode b_L_law 632 = .ok (.iconst 2, 1) := by decide +kernel
theorem d_L_law_633 : decode b_L_law 633 = .ok (.iadd, 1) := by decide +kernel
theorem d_L_law_634 : decode b_L_law 634 = .ok (.iaload, 1) := by decide +kernel
theorem d_L_law_635 : decode b_L_law 635 = .ok (.invokevirtual 94, 3) := by decide +kernel
theorem d_L_law_638 : decode b_L_law 638 = .ok (.if_icmp .eq 67, 3) := by decide +kernel
theorem d_L_law_641 : decode b_L_law 641 = .ok (.iconst 0, 1) := by decide +kernel
theorem d_L_law_642 : decode b_L_law 642 = .ok (.ireturn, 1) := by decide +kernel
theorem d_L_law_643 : decode b_L_law 643 = .ok (.aload_n 1, 1) := by decide +kernel
theorem d_L_law_644 : decode b_L_law 644 = .ok (.aload_n 0, 1) := by decide +kernel
theorem d_L_law_645 : decode b_L_law 645 = .ok (.iload 4, 2) := by decide +kernel
theorem d_L_law_647 : decode b_L_law 647 = .ok (.iconst 1, 1) := by decide +kernel
theorem d_L_law_648 : decode b_L_law 648 = .ok (.iadd, 1) := by decide +kernel
theorem d_L_law_649 : decode b_L_law 649 = .ok (.iaload, 1) := by decide +kernel
theorem d_L_law_650 : decode b_L_law 650 = .ok (.aload_n 0, 1) := by decide +kernel
theorem d_L_law_651 : decode b_L_law 651 = .ok (.iload 4, 2) := by decide +kernel
theorem d_L_law_653 : decode b_L_law 653 = .ok (.iconst 2, 1) := by decide +kernel
theorem d_L_law_654 : decode b_L_law 654 = .ok (.iadd, 1) := by decide +kernel
theorem d_L_law_655 : decode b_L_law 655 = .ok (.iaload, 1) := by decide +kernel
theorem d_L_law_656 : decode b_L_law 656 = .ok (.invokevirtual 95, 3) := by decide +kernel
theorem d_L_law_659 : decode b_L_law 659 = .ok (.aload_n 2, 1) := by decide +kernel
theorem d_L_law_660 : decode b_L_law 660 = .ok (.aload_n 0, 1) := by decide +kernel
theorem d_L_law_661 : decode b_L_law 661 = .ok (.iload 4, 2) := by decide +kernel
theorem d_L_law_663 : decode b_L_law 663 = .ok (.iconst 1, 1) := by decide +kernel
theorem d_L_law_664 : decode b_L_law 664 = .ok (.iadd, 1) := by decide +kernel
theorem d_L_law_665 : decode b_L_law 665 = .ok (.iaload, 1) := by decide +kernel
theorem d_L_law_666 : decode b_L_law 666 = .ok (.aload_n 0, 1) := by decide +kernel
theorem d_L_law_667 : decode b_L_law 667 = .ok (.iload 4, 2) := by decide +kernel
theorem d_L_law_669 : decode b_L_law 669 = .ok (.iconst 2, 1) := by decide +kernel
theorem d_L_law_670 : decode b_L_law 670 = .ok (.iadd, 1) := by decide +kernel
theorem d_L_law_671 : decode b_L_law 671 = .ok (.iaload, 1) := by decide +kernel
theorem d_L_law_672 : decode b_L_law 672 = .ok (.invokevirtual 98, 3) := by decide +kernel
theorem d_L_law_675 : decode b_L_law 675 = .ok (.if_icmp .eq 30, 3) := by decide +kernel
theorem d_L_law_678 : decode b_L_law 678 = .ok (.iconst 0, 1) := by decide +kernel
theorem d_L_law_679 : decode b_L_law 679 = .ok (.ireturn, 1) := by decide +kernel
theorem d_L_law_680 : decode b_L_law 680 = .ok (.aload_n 1, 1) := by decide +kernel
theorem d_L_law_681 : decode b_L_law 681 = .ok (.aload_n 0, 1) := by decide +kernel
theorem d_L_law_682 : decode b_L_law 682 = .ok (.iload 4, 2) := by decide +kernel
theorem d_L_law_684 : decode b_L_law 684 = .ok (.iconst 1, 1) := by decide +kernel
theorem d_L_law_685 : decode b_L_law 685 = .ok (.iadd, 1) := by decide +kernel
theorem d_L_law_686 : decode b_L_law 686 = .ok (.iaload, 1) := by decide +kernel
theorem d_L_law_687 : decode b_L_law 687 = .ok (.invokevirtual 99, 3) := by decide +kernel
theorem d_L_law_690 : decode b_L_law 690 = .ok (.aload_n 2, 1) := by decide +kernel
theorem d_L_law_691 : decode b_L_law 691 = .ok (.aload_n 0, 1) := by decide +kernel
theorem d_L_law_692 : decode b_L_law 692 = .ok (.iload 4, 2) := by decide +kernel
theorem d_L_law_694 : decode b_L_law 694 = .ok (.iconst 1, 1) := by decide +kernel
theorem d_L_law_695 : decode b_L_law 695 = .ok (.iadd, 1) := by decide +kernel
theorem d_L_law_696 : decode b_L_law 696 = .ok (.iaload, 1) := by decide +kernel
theorem d_L_law_697 : decode b_L_law 697 = .ok (.invokevirtual 102, 3) := by decide +kernel
theorem d_L_law_700 : decode b_L_law 700 = .ok (.if_icmp .eq 5, 3) := by decide +kernel
theorem d_L_law_703 : decode b_L_law 703 = .ok (.iconst 0, 1) := by decide +kernel
theorem d_L_law_704 : decode b_L_law 704 = .ok (.ireturn, 1) := by decide +kernel
theorem d_L_law_705 : decode b_L_law 705 = .ok (.iinc 4 5, 3) := by decide +kernel
theorem d_L_law_708 : decode b_L_law 708 = .ok (.goto (-685), 3) := by decide +kernel
theorem d_L_law_711 : decode b_L_law 711 = .ok (.iconst 1, 1) := by decide +kernel
theorem d_L_law_712 : decode b_L_law 712 = .ok (.ireturn, 1) := by decide +kernel
