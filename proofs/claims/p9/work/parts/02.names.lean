/-! names, fields, types; decode rows: written by wip/gen/names.py out of claim/JAVAP.txt and claim/Statement.lean -/
def F_T : u_T := fun k => match k with
  | 0 => ("VotedTriple", "instructions", "LVotedTriple$Program;", true)
  | 1 => ("VotedTriple", "modules", "[LVotedTriple$VotedModule;", true)
  | 2 => ("VotedTriple", "perfectOne", "LVotedTriple$PerfectOne;", true)
  | 3 => ("VotedTriple", "wordsIn", "LVotedTriple$WordsIn;", true)
  | 4 => ("VotedTriple", "wordsOut", "LVotedTriple$WordsOut;", true)
  | 5 => ("VotedTriple", "started", "Z", false)
  | 6 => ("VotedTriple", "safe", "Z", false)
  | 7 => ("VotedTriple", "singleAllowed", "Z", false)
  | 8 => ("VotedTriple", "steps", "I", false)
  | 9 => ("VotedTriple", "stepsNotAlike", "I", false)
  | _ => ("VotedTriple", "wordsTaken", "I", false)
def ft_T : Nat → FieldType := fun k => match k with
  | 0 => (.object "VotedTriple$Program")
  | 1 => (.array (.object "VotedTriple$VotedModule"))
  | 2 => (.object "VotedTriple$PerfectOne")
  | 3 => (.object "VotedTriple$WordsIn")
  | 4 => (.object "VotedTriple$WordsOut")
  | 5 => .boolean
  | 6 => .boolean
  | 7 => .boolean
  | 8 => .int
  | 9 => .int
  | _ => .int
theorem nm_T : ∀ a, a < 11 → ∀ b, b < 11 → a ≠ b → (F_T a).2.1 ≠ (F_T b).2.1 := by decide +kernel
theorem tyok_T : ∀ k, k < 11 → parseFieldDescriptor (F_T k).2.2.1 = some (ft_T k) := by decide +kernel
theorem df_T : ∀ j, j < 11 → defaultValue (ft_T j) = vp_V [.null, .null, .null, .null, .null, .int 0, .int 0, .int 0, .int 0, .int 0, .int 0] j := fun j hj => match j, hj with
  | 0, _ => rfl
  | 1, _ => rfl
  | 2, _ => rfl
  | 3, _ => rfl
  | 4, _ => rfl
  | 5, _ => rfl
  | 6, _ => rfl
  | 7, _ => rfl
  | 8, _ => rfl
  | 9, _ => rfl
  | 10, _ => rfl
  | x + 11, h => absurd h (by omega)
def F_P : u_T := fun k => match k with
  | 0 => ("VotedTriple$Program", "words", "[I", true)
  | _ => ("VotedTriple$Program", "count", "I", false)
def ft_P : Nat → FieldType := fun k => match k with
  | 0 => (.array .int)
  | _ => .int
theorem nm_P : ∀ a, a < 2 → ∀ b, b < 2 → a ≠ b → (F_P a).2.1 ≠ (F_P b).2.1 := by decide +kernel
theorem tyok_P : ∀ k, k < 2 → parseFieldDescriptor (F_P k).2.2.1 = some (ft_P k) := by decide +kernel
theorem df_P : ∀ j, j < 2 → defaultValue (ft_P j) = vp_V [.null, .int 0] j := fun j hj => match j, hj with
  | 0, _ => rfl
  | 1, _ => rfl
  | x + 2, h => absurd h (by omega)
def F_D : u_T := fun k => match k with
  | 0 => ("VotedTriple$Processor", "registers", "[I", true)
  | 1 => ("VotedTriple$Processor", "counter", "I", false)
  | 2 => ("VotedTriple$Processor", "wish", "I", false)
  | 3 => ("VotedTriple$Processor", "wishedWord", "I", false)
  | 4 => ("VotedTriple$Processor", "inRegister", "I", false)
  | 5 => ("VotedTriple$Processor", "storedAt", "I", false)
  | 6 => ("VotedTriple$Processor", "storedWord", "I", false)
  | 7 => ("VotedTriple$VotedModule", "codes", "[I", true)
  | 8 => ("VotedTriple$VotedModule", "status", "I", false)
  | 9 => ("VotedTriple$VotedModule", "mark", "I", false)
  | 10 => ("VotedTriple$VotedModule", "blame", "I", false)
  | 11 => ("VotedTriple$VotedModule", "frozen", "Z", false)
  | 12 => ("VotedTriple$VotedModule", "toSkip", "Z", false)
  | 13 => ("VotedTriple$VotedModule", "putRight", "I", false)
  | 14 => ("VotedTriple$VotedModule", "timesNamed", "I", false)
  | 15 => ("VotedTriple$VotedModule", "named", "Z", false)
  | 16 => ("VotedTriple$VotedModule", "readSpoilt", "Z", false)
  | 17 => ("VotedTriple$VotedModule", "scrubFoundSpoilt", "Z", false)
  | _ => ("VotedTriple$VotedModule", "ballot", "I", false)
def ft_D : Nat → FieldType := fun k => match k with
  | 0 => (.array .int)
  | 1 => .int
  | 2 => .int
  | 3 => .int
  | 4 => .int
  | 5 => .int
  | 6 => .int
  | 7 => (.array .int)
  | 8 => .int
  | 9 => .int
  | 10 => .int
  | 11 => .boolean
  | 12 => .boolean
  | 13 => .int
  | 14 => .int
  | 15 => .boolean
  | 16 => .boolean
  | 17 => .boolean
  | _ => .int
theorem nm_D : ∀ a, a < 19 → ∀ b, b < 19 → a ≠ b → (F_D a).2.1 ≠ (F_D b).2.1 := by decide +kernel
theorem tyok_D : ∀ k, k < 19 → parseFieldDescriptor (F_D k).2.2.1 = some (ft_D k) := by decide +kernel
theorem df_D : ∀ j, j < 19 → defaultValue (ft_D j) = vp_V [.null, .int 0, .int 0, .int 0, .int 0, .int 0, .int 0, .null, .int 0, .int 0, .int 0, .int 0, .int 0, .int 0, .int 0, .int 0, .int 0, .int 0, .int 0] j := fun j hj => match j, hj with
  | 0, _ => rfl
  | 1, _ => rfl
  | 2, _ => rfl
  | 3, _ => rfl
  | 4, _ => rfl
  | 5, _ => rfl
  | 6, _ => rfl
  | 7, _ => rfl
  | 8, _ => rfl
  | 9, _ => rfl
  | 10, _ => rfl
  | 11, _ => rfl
  | 12, _ => rfl
  | 13, _ => rfl
  | 14, _ => rfl
  | 15, _ => rfl
  | 16, _ => rfl
  | 17, _ => rfl
  | 18, _ => rfl
  | x + 19, h => absurd h (by omega)
def F_E : u_T := fun k => match k with
  | 0 => ("VotedTriple$Processor", "registers", "[I", true)
  | 1 => ("VotedTriple$Processor", "counter", "I", false)
  | 2 => ("VotedTriple$Processor", "wish", "I", false)
  | 3 => ("VotedTriple$Processor", "wishedWord", "I", false)
  | 4 => ("VotedTriple$Processor", "inRegister", "I", false)
  | 5 => ("VotedTriple$Processor", "storedAt", "I", false)
  | 6 => ("VotedTriple$Processor", "storedWord", "I", false)
  | 7 => ("VotedTriple$PerfectOne", "wordsOut", "LVotedTriple$WordsOut;", true)
  | 8 => ("VotedTriple$PerfectOne", "words", "[I", true)
  | _ => ("VotedTriple$PerfectOne", "wordsTaken", "I", false)
def ft_E : Nat → FieldType := fun k => match k with
  | 0 => (.array .int)
  | 1 => .int
  | 2 => .int
  | 3 => .int
  | 4 => .int
  | 5 => .int
  | 6 => .int
  | 7 => (.object "VotedTriple$WordsOut")
  | 8 => (.array .int)
  | _ => .int
theorem nm_E : ∀ a, a < 10 → ∀ b, b < 10 → a ≠ b → (F_E a).2.1 ≠ (F_E b).2.1 := by decide +kernel
theorem tyok_E : ∀ k, k < 10 → parseFieldDescriptor (F_E k).2.2.1 = some (ft_E k) := by decide +kernel
theorem df_E : ∀ j, j < 10 → defaultValue (ft_E j) = vp_V [.null, .int 0, .int 0, .int 0, .int 0, .int 0, .int 0, .null, .null, .int 0] j := fun j hj => match j, hj with
  | 0, _ => rfl
  | 1, _ => rfl
  | 2, _ => rfl
  | 3, _ => rfl
  | 4, _ => rfl
  | 5, _ => rfl
  | 6, _ => rfl
  | 7, _ => rfl
  | 8, _ => rfl
  | 9, _ => rfl
  | x + 10, h => absurd h (by omega)
def F_N : u_T := fun k => match k with
  | 0 => ("VotedTriple$WordsIn", "words", "[I", true)
  | _ => ("VotedTriple$WordsIn", "count", "I", false)
def ft_N : Nat → FieldType := fun k => match k with
  | 0 => (.array .int)
  | _ => .int
theorem nm_N : ∀ a, a < 2 → ∀ b, b < 2 → a ≠ b → (F_N a).2.1 ≠ (F_N b).2.1 := by decide +kernel
theorem tyok_N : ∀ k, k < 2 → parseFieldDescriptor (F_N k).2.2.1 = some (ft_N k) := by decide +kernel
theorem df_N : ∀ j, j < 2 → defaultValue (ft_N j) = vp_V [.null, .int 0] j := fun j hj => match j, hj with
  | 0, _ => rfl
  | 1, _ => rfl
  | x + 2, h => absurd h (by omega)
def F_O : u_T := fun k => match k with
  | 0 => ("VotedTriple$WordsOut", "kept", "[I", true)
  | _ => ("VotedTriple$WordsOut", "count", "I", false)
def ft_O : Nat → FieldType := fun k => match k with
  | 0 => (.array .int)
  | _ => .int
theorem nm_O : ∀ a, a < 2 → ∀ b, b < 2 → a ≠ b → (F_O a).2.1 ≠ (F_O b).2.1 := by decide +kernel
theorem tyok_O : ∀ k, k < 2 → parseFieldDescriptor (F_O k).2.2.1 = some (ft_O k) := by decide +kernel
theorem df_O : ∀ j, j < 2 → defaultValue (ft_O j) = vp_V [.null, .int 0] j := fun j hj => match j, hj with
  | 0, _ => rfl
  | 1, _ => rfl
  | x + 2, h => absurd h (by omega)
def F_M : u_T := fun k => match k with
  | 0 => ("VotedTripleModel", "thrown", "I", false)
  | 1 => ("VotedTripleModel", "size", "I", false)
  | 2 => ("VotedTripleModel", "code", "[I", true)
  | 3 => ("VotedTripleModel", "started", "Z", false)
  | 4 => ("VotedTripleModel", "safe", "Z", false)
  | 5 => ("VotedTripleModel", "single", "Z", false)
  | 6 => ("VotedTripleModel", "steps", "I", false)
  | 7 => ("VotedTripleModel", "unlike", "I", false)
  | 8 => ("VotedTripleModel", "register", "[I", true)
  | 9 => ("VotedTripleModel", "cell", "[I", true)
  | 10 => ("VotedTripleModel", "counter", "[I", true)
  | 11 => ("VotedTripleModel", "state", "[I", true)
  | 12 => ("VotedTripleModel", "mark", "[I", true)
  | 13 => ("VotedTripleModel", "blame", "[I", true)
  | 14 => ("VotedTripleModel", "frozen", "[Z", true)
  | 15 => ("VotedTripleModel", "skips", "[Z", true)
  | 16 => ("VotedTripleModel", "mended", "[I", true)
  | 17 => ("VotedTripleModel", "namedTimes", "[I", true)
  | 18 => ("VotedTripleModel", "wish", "[I", true)
  | 19 => ("VotedTripleModel", "spoilt", "[Z", true)
  | 20 => ("VotedTripleModel", "inTo", "[I", true)
  | 21 => ("VotedTripleModel", "storeAt", "[I", true)
  | 22 => ("VotedTripleModel", "storeWord", "[I", true)
  | 23 => ("VotedTripleModel", "named", "[Z", true)
  | 24 => ("VotedTripleModel", "readSpoilt", "Z", false)
  | 25 => ("VotedTripleModel", "jump", "I", false)
  | 26 => ("VotedTripleModel", "came", "I", false)
  | 27 => ("VotedTripleModel", "used", "I", false)
  | 28 => ("VotedTripleModel", "inputs", "[I", true)
  | 29 => ("VotedTripleModel", "went", "I", false)
  | 30 => ("VotedTripleModel", "outputs", "[I", true)
  | 31 => ("VotedTripleModel", "ownRegister", "[I", true)
  | 32 => ("VotedTripleModel", "ownWord", "[I", true)
  | 33 => ("VotedTripleModel", "ownCounter", "I", false)
  | 34 => ("VotedTripleModel", "ownUsed", "I", false)
  | 35 => ("VotedTripleModel", "ownWent", "I", false)
  | _ => ("VotedTripleModel", "ownOutputs", "[I", true)
def ft_M : Nat → FieldType := fun k => match k with
  | 0 => .int
  | 1 => .int
  | 2 => (.array .int)
  | 3 => .boolean
  | 4 => .boolean
  | 5 => .boolean
  | 6 => .int
  | 7 => .int
  | 8 => (.array .int)
  | 9 => (.array .int)
  | 10 => (.array .int)
  | 11 => (.array .int)
  | 12 => (.array .int)
  | 13 => (.array .int)
  | 14 => (.array .boolean)
  | 15 => (.array .boolean)
  | 16 => (.array .int)
  | 17 => (.array .int)
  | 18 => (.array .int)
  | 19 => (.array .boolean)
  | 20 => (.array .int)
  | 21 => (.array .int)
  | 22 => (.array .int)
  | 23 => (.array .boolean)
  | 24 => .boolean
  | 25 => .int
  | 26 => .int
  | 27 => .int
  | 28 => (.array .int)
  | 29 => .int
  | 30 => (.array .int)
  | 31 => (.array .int)
  | 32 => (.array .int)
  | 33 => .int
  | 34 => .int
  | 35 => .int
  | _ => (.array .int)
theorem nm_M : ∀ a, a < 37 → ∀ b, b < 37 → a ≠ b → (F_M a).2.1 ≠ (F_M b).2.1 := by decide +kernel
theorem tyok_M : ∀ k, k < 37 → parseFieldDescriptor (F_M k).2.2.1 = some (ft_M k) := by decide +kernel
theorem df_M : ∀ j, j < 37 → defaultValue (ft_M j) = vp_V [.int 0, .int 0, .null, .int 0, .int 0, .int 0, .int 0, .int 0, .null, .null, .null, .null, .null, .null, .null, .null, .null, .null, .null, .null, .null, .null, .null, .null, .int 0, .int 0, .int 0, .int 0, .null, .int 0, .null, .null, .null, .int 0, .int 0, .int 0, .null] j := fun j hj => match j, hj with
  | 0, _ => rfl
  | 1, _ => rfl
  | 2, _ => rfl
  | 3, _ => rfl
  | 4, _ => rfl
  | 5, _ => rfl
  | 6, _ => rfl
  | 7, _ => rfl
  | 8, _ => rfl
  | 9, _ => rfl
  | 10, _ => rfl
  | 11, _ => rfl
  | 12, _ => rfl
  | 13, _ => rfl
  | 14, _ => rfl
  | 15, _ => rfl
  | 16, _ => rfl
  | 17, _ => rfl
  | 18, _ => rfl
  | 19, _ => rfl
  | 20, _ => rfl
  | 21, _ => rfl
  | 22, _ => rfl
  | 23, _ => rfl
  | 24, _ => rfl
  | 25, _ => rfl
  | 26, _ => rfl
  | 27, _ => rfl
  | 28, _ => rfl
  | 29, _ => rfl
  | 30, _ => rfl
  | 31, _ => rfl
  | 32, _ => rfl
  | 33, _ => rfl
  | 34, _ => rfl
  | 35, _ => rfl
  | 36, _ => rfl
  | x + 37, h => absurd h (by omega)
abbrev classes : List vw_C := [("VotedTriple", F_T, 11), ("VotedTriple$Program", F_P, 2), ("VotedTriple$VotedModule", F_D, 19), ("VotedTriple$PerfectOne", F_E, 10), ("VotedTriple$WordsIn", F_N, 2), ("VotedTriple$WordsOut", F_O, 2), ("VotedTripleModel", F_M, 37)]
def y_I_bitCount : MethodName := ⟨"java/lang/Integer", "bitCount", "(I)I"⟩
abbrev b_I_bitCount : ByteArray := prog_15_method_49_code
def y_K_exclusiveOr : MethodName := ⟨"VotedTriple$Code", "exclusiveOr", "(I)I"⟩
abbrev b_K_exclusiveOr : ByteArray := prog_2_method_4_code
def y_K_ofWord : MethodName := ⟨"VotedTriple$Code", "ofWord", "(I)I"⟩
abbrev b_K_ofWord : ByteArray := prog_2_method_2_code
def y_P_opOf : MethodName := ⟨"VotedTriple$Program", "opOf", "(I)I"⟩
abbrev b_P_opOf : ByteArray := prog_5_method_8_code
def y_P_aOf : MethodName := ⟨"VotedTriple$Program", "aOf", "(I)I"⟩
abbrev b_P_aOf : ByteArray := prog_5_method_9_code
def y_P_bOf : MethodName := ⟨"VotedTriple$Program", "bOf", "(I)I"⟩
abbrev b_P_bOf : ByteArray := prog_5_method_10_code
def y_P_cOf : MethodName := ⟨"VotedTriple$Program", "cOf", "(I)I"⟩
abbrev b_P_cOf : ByteArray := prog_5_method_11_code
def y_P_isRegister : MethodName := ⟨"VotedTriple$Program", "isRegister", "(I)Z"⟩
abbrev b_P_isRegister : ByteArray := prog_5_method_7_code
def y_P_isInstruction : MethodName := ⟨"VotedTriple$Program", "isInstruction", "(I)Z"⟩
abbrev b_P_isInstruction : ByteArray := prog_5_method_6_code
def y_P_wrap : MethodName := ⟨"VotedTriple$Program", "wrap", "(I)I"⟩
abbrev b_P_wrap : ByteArray := prog_5_method_5_code
def y_P_instructionAt : MethodName := ⟨"VotedTriple$Program", "instructionAt", "(I)I"⟩
abbrev b_P_instructionAt : ByteArray := prog_5_method_4_code
def y_C_wishNothing : MethodName := ⟨"VotedTriple$Processor", "wishNothing", "()V"⟩
abbrev b_C_wishNothing : ByteArray := prog_4_method_6_code
def y_C_clearEffects : MethodName := ⟨"VotedTriple$Processor", "clearEffects", "()V"⟩
abbrev b_C_clearEffects : ByteArray := prog_4_method_5_code
def y_C_clearProcessor : MethodName := ⟨"VotedTriple$Processor", "clearProcessor", "()V"⟩
abbrev b_C_clearProcessor : ByteArray := prog_4_method_4_code
def y_C_passOver : MethodName := ⟨"VotedTriple$Processor", "passOver", "(LVotedTriple$Program;)V"⟩
abbrev b_C_passOver : ByteArray := prog_4_method_7_code
def y_C_reckon : MethodName := ⟨"VotedTriple$Processor", "reckon", "(III)I"⟩
abbrev b_C_reckon : ByteArray := prog_4_method_10_code
def y_K_wordOf : MethodName := ⟨"VotedTriple$Code", "wordOf", "(I)I"⟩
abbrev b_K_wordOf : ByteArray := prog_2_method_3_code
def y_D_findsSpoilt : MethodName := ⟨"VotedTriple$VotedModule", "findsSpoilt", "(I)Z"⟩
abbrev b_D_findsSpoilt : ByteArray := prog_6_method_10_code
def y_D_writeWord : MethodName := ⟨"VotedTriple$VotedModule", "writeWord", "(II)V"⟩
abbrev b_D_writeWord : ByteArray := prog_6_method_9_code
def y_D_readWord : MethodName := ⟨"VotedTriple$VotedModule", "readWord", "(I)I"⟩
abbrev b_D_readWord : ByteArray := prog_6_method_8_code
def y_C_receive : MethodName := ⟨"VotedTriple$Processor", "receive", "(I)V"⟩
abbrev b_C_receive : ByteArray := prog_4_method_9_code
def y_C_execute : MethodName := ⟨"VotedTriple$Processor", "execute", "(LVotedTriple$Program;)V"⟩
abbrev b_C_execute : ByteArray := prog_4_method_8_code
def y_D_isTrusted : MethodName := ⟨"VotedTriple$VotedModule", "isTrusted", "()Z"⟩
abbrev b_D_isTrusted : ByteArray := prog_6_method_3_code
def y_D_shownMark : MethodName := ⟨"VotedTriple$VotedModule", "shownMark", "()I"⟩
abbrev b_D_shownMark : ByteArray := prog_6_method_4_code
def y_D_wishAsBallot : MethodName := ⟨"VotedTriple$VotedModule", "wishAsBallot", "()I"⟩
abbrev b_D_wishAsBallot : ByteArray := prog_6_method_6_code
def y_D_digest : MethodName := ⟨"VotedTriple$VotedModule", "digest", "()I"⟩
abbrev b_D_digest : ByteArray := prog_6_method_7_code
def y_D_forgetLastStep : MethodName := ⟨"VotedTriple$VotedModule", "forgetLastStep", "()V"⟩
abbrev b_D_forgetLastStep : ByteArray := prog_6_method_5_code
def y_D_blameLater : MethodName := ⟨"VotedTriple$VotedModule", "blameLater", "()V"⟩
abbrev b_D_blameLater : ByteArray := prog_6_method_11_code
def y_D_takeBlame : MethodName := ⟨"VotedTriple$VotedModule", "takeBlame", "()V"⟩
abbrev b_D_takeBlame : ByteArray := prog_6_method_12_code
def y_D_makeBlank : MethodName := ⟨"VotedTriple$VotedModule", "makeBlank", "(I)V"⟩
abbrev b_D_makeBlank : ByteArray := prog_6_method_2_code
theorem d_I_bitCount_0 : decode b_I_bitCount 0 = .ok (.iload_n 0, 1) := by decide +kernel
theorem d_I_bitCount_1 : decode b_I_bitCount 1 = .ok (.iload_n 0, 1) := by decide +kernel
theorem d_I_bitCount_2 : decode b_I_bitCount 2 = .ok (.iconst 1, 1) := by decide +kernel
theorem d_I_bitCount_3 : decode b_I_bitCount 3 = .ok (.iushr, 1) := by decide +kernel
theorem d_I_bitCount_4 : decode b_I_bitCount 4 = .ok (.ldc_w 265, 3) := by decide +kernel
theorem d_I_bitCount_7 : decode b_I_bitCount 7 = .ok (.iand, 1) := by decide +kernel
theorem d_I_bitCount_8 : decode b_I_bitCount 8 = .ok (.isub, 1) := by decide +kernel
theorem d_I_bitCount_9 : decode b_I_bitCount 9 = .ok (.istore_n 0, 1) := by decide +kernel
theorem d_I_bitCount_10 : decode b_I_bitCount 10 = .ok (.iload_n 0, 1) := by decide +kernel
theorem d_I_bitCount_11 : decode b_I_bitCount 11 = .ok (.ldc_w 266, 3) := by decide +kernel
theorem d_I_bitCount_14 : decode b_I_bitCount 14 = .ok (.iand, 1) := by decide +kernel
theorem d_I_bitCount_15 : decode b_I_bitCount 15 = .ok (.iload_n 0, 1) := by decide +kernel
theorem d_I_bitCount_16 : decode b_I_bitCount 16 = .ok (.iconst 2, 1) := by decide +kernel
theorem d_I_bitCount_17 : decode b_I_bitCount 17 = .ok (.iushr, 1) := by decide +kernel
theorem d_I_bitCount_18 : decode b_I_bitCount 18 = .ok (.ldc_w 266, 3) := by decide +kernel
theorem d_I_bitCount_21 : decode b_I_bitCount 21 = .ok (.iand, 1) := by decide +kernel
theorem d_I_bitCount_22 : decode b_I_bitCount 22 = .ok (.iadd, 1) := by decide +kernel
theorem d_I_bitCount_23 : decode b_I_bitCount 23 = .ok (.istore_n 0, 1) := by decide +kernel
theorem d_I_bitCount_24 : decode b_I_bitCount 24 = .ok (.iload_n 0, 1) := by decide +kernel
theorem d_I_bitCount_25 : decode b_I_bitCount 25 = .ok (.iload_n 0, 1) := by decide +kernel
theorem d_I_bitCount_26 : decode b_I_bitCount 26 = .ok (.iconst 4, 1) := by decide +kernel
theorem d_I_bitCount_27 : decode b_I_bitCount 27 = .ok (.iushr, 1) := by decide +kernel
theorem d_I_bitCount_28 : decode b_I_bitCount 28 = .ok (.iadd, 1) := by decide +kernel
theorem d_I_bitCount_29 : decode b_I_bitCount 29 = .ok (.ldc_w 267, 3) := by decide +kernel
theorem d_I_bitCount_32 : decode b_I_bitCount 32 = .ok (.iand, 1) := by decide +kernel
theorem d_I_bitCount_33 : decode b_I_bitCount 33 = .ok (.istore_n 0, 1) := by decide +kernel
theorem d_I_bitCount_34 : decode b_I_bitCount 34 = .ok (.iload_n 0, 1) := by decide +kernel
theorem d_I_bitCount_35 : decode b_I_bitCount 35 = .ok (.iload_n 0, 1) := by decide +kernel
theorem d_I_bitCount_36 : decode b_I_bitCount 36 = .ok (.bipush 8, 2) := by decide +kernel
theorem d_I_bitCount_38 : decode b_I_bitCount 38 = .ok (.iushr, 1) := by decide +kernel
theorem d_I_bitCount_39 : decode b_I_bitCount 39 = .ok (.iadd, 1) := by decide +kernel
theorem d_I_bitCount_40 : decode b_I_bitCount 40 = .ok (.istore_n 0, 1) := by decide +kernel
theorem d_I_bitCount_41 : decode b_I_bitCount 41 = .ok (.iload_n 0, 1) := by decide +kernel
theorem d_I_bitCount_42 : decode b_I_bitCount 42 = .ok (.iload_n 0, 1) := by decide +kernel
theorem d_I_bitCount_43 : decode b_I_bitCount 43 = .ok (.bipush 16, 2) := by decide +kernel
theorem d_I_bitCount_45 : decode b_I_bitCount 45 = .ok (.iushr, 1) := by decide +kernel
theorem d_I_bitCount_46 : decode b_I_bitCount 46 = .ok (.iadd, 1) := by decide +kernel
theorem d_I_bitCount_47 : decode b_I_bitCount 47 = .ok (.istore_n 0, 1) := by decide +kernel
theorem d_I_bitCount_48 : decode b_I_bitCount 48 = .ok (.iload_n 0, 1) := by decide +kernel
theorem d_I_bitCount_49 : decode b_I_bitCount 49 = .ok (.bipush 63, 2) := by decide +kernel
theorem d_I_bitCount_51 : decode b_I_bitCount 51 = .ok (.iand, 1) := by decide +kernel
theorem d_I_bitCount_52 : decode b_I_bitCount 52 = .ok (.ireturn, 1) := by decide +kernel
theorem d_K_exclusiveOr_0 : decode b_K_exclusiveOr 0 = .ok (.iconst 0, 1) := by decide +kernel
theorem d_K_exclusiveOr_1 : decode b_K_exclusiveOr 1 = .ok (.istore_n 1, 1) := by decide +kernel
theorem d_K_exclusiveOr_2 : decode b_K_exclusiveOr 2 = .ok (.iconst 0, 1) := by decide +kernel
theorem d_K_exclusiveOr_3 : decode b_K_exclusiveOr 3 = .ok (.istore_n 2, 1) := by decide +kernel
theorem d_K_exclusiveOr_4 : decode b_K_exclusiveOr 4 = .ok (.iload_n 2, 1) := by decide +kernel
theorem d_K_exclusiveOr_5 : decode b_K_exclusiveOr 5 = .ok (.getstatic 14, 3) := by decide +kernel
theorem d_K_exclusiveOr_8 : decode b_K_exclusiveOr 8 = .ok (.arraylength, 1) := by decide +kernel
theorem d_K_exclusiveOr_9 : decode b_K_exclusiveOr 9 = .ok (.if_icmp .ge 26, 3) := by decide +kernel
theorem d_K_exclusiveOr_12 : decode b_K_exclusiveOr 12 = .ok (.iload_n 1, 1) := by decide +kernel
theorem d_K_exclusiveOr_13 : decode b_K_exclusiveOr 13 = .ok (.iload_n 0, 1) := by decide +kernel
theorem d_K_exclusiveOr_14 : decode b_K_exclusiveOr 14 = .ok (.getstatic 14, 3) := by decide +kernel
theorem d_K_exclusiveOr_17 : decode b_K_exclusiveOr 17 = .ok (.iload_n 2, 1) := by decide +kernel
theorem d_K_exclusiveOr_18 : decode b_K_exclusiveOr 18 = .ok (.iaload, 1) := by decide +kernel
theorem d_K_exclusiveOr_19 : decode b_K_exclusiveOr 19 = .ok (.iand, 1) := by decide +kernel
theorem d_K_exclusiveOr_20 : decode b_K_exclusiveOr 20 = .ok (.invokestatic 18, 3) := by decide +kernel
theorem d_K_exclusiveOr_23 : decode b_K_exclusiveOr 23 = .ok (.iconst 1, 1) := by decide +kernel
theorem d_K_exclusiveOr_24 : decode b_K_exclusiveOr 24 = .ok (.iand, 1) := by decide +kernel
theorem d_K_exclusiveOr_25 : decode b_K_exclusiveOr 25 = .ok (.iload_n 2, 1) := by decide +kernel
theorem d_K_exclusiveOr_26 : decode b_K_exclusiveOr 26 = .ok (.ishl, 1) := by decide +kernel
theorem d_K_exclusiveOr_27 : decode b_K_exclusiveOr 27 = .ok (.ior, 1) := by decide +kernel
theorem d_K_exclusiveOr_28 : decode b_K_exclusiveOr 28 = .ok (.istore_n 1, 1) := by decide +kernel
theorem d_K_exclusiveOr_29 : decode b_K_exclusiveOr 29 = .ok (.iinc 2 1, 3) := by decide +kernel
theorem d_K_exclusiveOr_32 : decode b_K_exclusiveOr 32 = .ok (.goto (-28), 3) := by decide +kernel
theorem d_K_exclusiveOr_35 : decode b_K_exclusiveOr 35 = .ok (.iload_n 1, 1) := by decide +kernel
theorem d_K_exclusiveOr_36 : decode b_K_exclusiveOr 36 = .ok (.ireturn, 1) := by decide +kernel
theorem d_K_ofWord_0 : decode b_K_ofWord 0 = .ok (.iload_n 0, 1) := by decide +kernel
theorem d_K_ofWord_1 : decode b_K_ofWord 1 = .ok (.iconst 1, 1) := by decide +kernel
theorem d_K_ofWord_2 : decode b_K_ofWord 2 = .ok (.iand, 1) := by decide +kernel
theorem d_K_ofWord_3 : decode b_K_ofWord 3 = .ok (.iconst 3, 1) := by decide +kernel
theorem d_K_ofWord_4 : decode b_K_ofWord 4 = .ok (.ishl, 1) := by decide +kernel
theorem d_K_ofWord_5 : decode b_K_ofWord 5 = .ok (.iload_n 0, 1) := by decide +kernel
theorem d_K_ofWord_6 : decode b_K_ofWord 6 = .ok (.bipush 14, 2) := by decide +kernel
theorem d_K_ofWord_8 : decode b_K_ofWord 8 = .ok (.iand, 1) := by decide +kernel
theorem d_K_ofWord_9 : decode b_K_ofWord 9 = .ok (.iconst 4, 1) := by decide +kernel
theorem d_K_ofWord_10 : decode b_K_ofWord 10 = .ok (.ishl, 1) := by decide +kernel
theorem d_K_ofWord_11 : decode b_K_ofWord 11 = .ok (.ior, 1) := by decide +kernel
theorem d_K_ofWord_12 : decode b_K_ofWord 12 = .ok (.iload_n 0, 1) := by decide +kernel
theorem d_K_ofWord_13 : decode b_K_ofWord 13 = .ok (.sipush 2032, 3) := by decide +kernel
theorem d_K_ofWord_16 : decode b_K_ofWord 16 = .ok (.iand, 1) := by decide +kernel
theorem d_K_ofWord_17 : decode b_K_ofWord 17 = .ok (.iconst 5, 1) := by decide +kernel
theorem d_K_ofWord_18 : decode b_K_ofWord 18 = .ok (.ishl, 1) := by decide +kernel
theorem d_K_ofWord_19 : decode b_K_ofWord 19 = .ok (.ior, 1) := by decide +kernel
theorem d_K_ofWord_20 : decode b_K_ofWord 20 = .ok (.iload_n 0, 1) := by decide +kernel
theorem d_K_ofWord_21 : decode b_K_ofWord 21 = .ok (.ldc 7, 2) := by decide +kernel
theorem d_K_ofWord_23 : decode b_K_ofWord 23 = .ok (.iand, 1) := by decide +kernel
theorem d_K_ofWord_24 : decode b_K_ofWord 24 = .ok (.bipush 6, 2) := by decide +kernel
theorem d_K_ofWord_26 : decode b_K_ofWord 26 = .ok (.ishl, 1) := by decide +kernel
theorem d_K_ofWord_27 : decode b_K_ofWord 27 = .ok (.ior, 1) := by decide +kernel
theorem d_K_ofWord_28 : decode b_K_ofWord 28 = .ok (.istore_n 1, 1) := by decide +kernel
theorem d_K_ofWord_29 : decode b_K_ofWord 29 = .ok (.iload_n 1, 1) := by decide +kernel
theorem d_K_ofWord_30 : decode b_K_ofWord 30 = .ok (.invokestatic 8, 3) := by decide +kernel
theorem d_K_ofWord_33 : decode b_K_ofWord 33 = .ok (.istore_n 2, 1) := by decide +kernel
theorem d_K_ofWord_34 : decode b_K_ofWord 34 = .ok (.iconst 0, 1) := by decide +kernel
theorem d_K_ofWord_35 : decode b_K_ofWord 35 = .ok (.istore_n 3, 1) := by decide +kernel
theorem d_K_ofWord_36 : decode b_K_ofWord 36 = .ok (.iload_n 3, 1) := by decide +kernel
theorem d_K_ofWord_37 : decode b_K_ofWord 37 = .ok (.getstatic 14, 3) := by decide +kernel
theorem d_K_ofWord_40 : decode b_K_ofWord 40 = .ok (.arraylength, 1) := by decide +kernel
theorem d_K_ofWord_41 : decode b_K_ofWord 41 = .ok (.if_icmp .ge 25, 3) := by decide +kernel
theorem d_K_ofWord_44 : decode b_K_ofWord 44 = .ok (.iload_n 2, 1) := by decide +kernel
theorem d_K_ofWord_45 : decode b_K_ofWord 45 = .ok (.iload_n 3, 1) := by decide +kernel
theorem d_K_ofWord_46 : decode b_K_ofWord 46 = .ok (.ishr, 1) := by decide +kernel
theorem d_K_ofWord_47 : decode b_K_ofWord 47 = .ok (.iconst 1, 1) := by decide +kernel
theorem d_K_ofWord_48 : decode b_K_ofWord 48 = .ok (.iand, 1) := by decide +kernel
theorem d_K_ofWord_49 : decode b_K_ofWord 49 = .ok (.ifCond .eq 11, 3) := by decide +kernel
theorem d_K_ofWord_52 : decode b_K_ofWord 52 = .ok (.iload_n 1, 1) := by decide +kernel
theorem d_K_ofWord_53 : decode b_K_ofWord 53 = .ok (.iconst 1, 1) := by decide +kernel
theorem d_K_ofWord_54 : decode b_K_ofWord 54 = .ok (.iconst 1, 1) := by decide +kernel
theorem d_K_ofWord_55 : decode b_K_ofWord 55 = .ok (.iload_n 3, 1) := by decide +kernel
theorem d_K_ofWord_56 : decode b_K_ofWord 56 = .ok (.ishl, 1) := by decide +kernel
theorem d_K_ofWord_57 : decode b_K_ofWord 57 = .ok (.ishl, 1) := by decide +kernel
theorem d_K_ofWord_58 : decode b_K_ofWord 58 = .ok (.ior, 1) := by decide +kernel
theorem d_K_ofWord_59 : decode b_K_ofWord 59 = .ok (.istore_n 1, 1) := by decide +kernel
theorem d_K_ofWord_60 : decode b_K_ofWord 60 = .ok (.iinc 3 1, 3) := by decide +kernel
theorem d_K_ofWord_63 : decode b_K_ofWord 63 = .ok (.goto (-27), 3) := by decide +kernel
theorem d_K_ofWord_66 : decode b_K_ofWord 66 = .ok (.iload_n 1, 1) := by decide +kernel
theorem d_K_ofWord_67 : decode b_K_ofWord 67 = .ok (.iload_n 1, 1) := by decide +kernel
theorem d_K_ofWord_68 : decode b_K_ofWord 68 = .ok (.invokestatic 18, 3) := by decide +kernel
theorem d_K_ofWord_71 : decode b_K_ofWord 71 = .ok (.iconst 1, 1) := by decide +kernel
theorem d_K_ofWord_72 : decode b_K_ofWord 72 = .ok (.iand, 1) := by decide +kernel
theorem d_K_ofWord_73 : decode b_K_ofWord 73 = .ok (.ior, 1) := by decide +kernel
theorem d_K_ofWord_74 : decode b_K_ofWord 74 = .ok (.ireturn, 1) := by decide +kernel
theorem d_P_opOf_0 : decode b_P_opOf 0 = .ok (.iload_n 0, 1) := by decide +kernel
theorem d_P_opOf_1 : decode b_P_opOf 1 = .ok (.bipush 24, 2) := by decide +kernel
theorem d_P_opOf_3 : decode b_P_opOf 3 = .ok (.iushr, 1) := by decide +kernel
theorem d_P_opOf_4 : decode b_P_opOf 4 = .ok (.ireturn, 1) := by decide +kernel
theorem d_P_aOf_0 : decode b_P_aOf 0 = .ok (.iload_n 0, 1) := by decide +kernel
theorem d_P_aOf_1 : decode b_P_aOf 1 = .ok (.bipush 16, 2) := by decide +kernel
theorem d_P_aOf_3 : decode b_P_aOf 3 = .ok (.iushr, 1) := by decide +kernel
theorem d_P_aOf_4 : decode b_P_aOf 4 = .ok (.sipush 255, 3) := by decide +kernel
theorem d_P_aOf_7 : decode b_P_aOf 7 = .ok (.iand, 1) := by decide +kernel
theorem d_P_aOf_8 : decode b_P_aOf 8 = .ok (.ireturn, 1) := by decide +kernel
theorem d_P_bOf_0 : decode b_P_bOf 0 = .ok (.iload_n 0, 1) := by decide +kernel
theorem d_P_bOf_1 : decode b_P_bOf 1 = .ok (.bipush 8, 2) := by decide +kernel
theorem d_P_bOf_3 : decode b_P_bOf 3 = .ok (.iushr, 1) := by decide +kernel
theorem d_P_bOf_4 : decode b_P_bOf 4 = .ok (.sipush 255, 3) := by decide +kernel
theorem d_P_bOf_7 : decode b_P_bOf 7 = .ok (.iand, 1) := by decide +kernel
theorem d_P_bOf_8 : decode b_P_bOf 8 = .ok (.ireturn, 1) := by decide +kernel
theorem d_P_cOf_0 : decode b_P_cOf 0 = .ok (.iload_n 0, 1) := by decide +kernel
theorem d_P_cOf_1 : decode b_P_cOf 1 = .ok (.sipush 255, 3) := by decide +kernel
theorem d_P_cOf_4 : decode b_P_cOf 4 = .ok (.iand, 1) := by decide +kernel
theorem d_P_cOf_5 : decode b_P_cOf 5 = .ok (.ireturn, 1) := by decide +kernel
theorem d_P_isRegister_0 : decode b_P_isRegister 0 = .ok (.iload_n 0, 1) := by decide +kernel
theorem d_P_isRegister_1 : decode b_P_isRegister 1 = .ok (.bipush 8, 2) := by decide +kernel
theorem d_P_isRegister_3 : decode b_P_isRegister 3 = .ok (.if_icmp .ge 7, 3) := by decide +kernel
theorem d_P_isRegister_6 : decode b_P_isRegister 6 = .ok (.iconst 1, 1) := by decide +kernel
theorem d_P_isRegister_7 : decode b_P_isRegister 7 = .ok (.goto 4, 3) := by decide +kernel
theorem d_P_isRegister_10 : decode b_P_isRegister 10 = .ok (.iconst 0, 1) := by decide +kernel
theorem d_P_isRegister_11 : decode b_P_isRegister 11 = .ok (.ireturn, 1) := by decide +kernel
theorem d_P_isInstruction_0 : decode b_P_isInstruction 0 = .ok (.iload_n 0, 1) := by decide +kernel
theorem d_P_isInstruction_1 : decode b_P_isInstruction 1 = .ok (.invokestatic 23, 3) := by decide +kernel
theorem d_P_isInstruction_4 : decode b_P_isInstruction 4 = .ok (.tableswitch 132 0 10 #[60, 68, 68, 68, 68, 104, 104, 60, 130, 60, 60], 60) := by decide +kernel
theorem d_P_isInstruction_64 : decode b_P_isInstruction 64 = .ok (.iload_n 0, 1) := by decide +kernel
theorem d_P_isInstruction_65 : decode b_P_isInstruction 65 = .ok (.invokestatic 33, 3) := by decide +kernel
theorem d_P_isInstruction_68 : decode b_P_isInstruction 68 = .ok (.invokestatic 36, 3) := by decide +kernel
theorem d_P_isInstruction_71 : decode b_P_isInstruction 71 = .ok (.ireturn, 1) := by decide +kernel
theorem d_P_isInstruction_72 : decode b_P_isInstruction 72 = .ok (.iload_n 0, 1) := by decide +kernel
theorem d_P_isInstruction_73 : decode b_P_isInstruction 73 = .ok (.invokestatic 33, 3) := by decide +kernel
theorem d_P_isInstruction_76 : decode b_P_isInstruction 76 = .ok (.invokestatic 36, 3) := by decide +kernel
theorem d_P_isInstruction_79 : decode b_P_isInstruction 79 = .ok (.ifCond .eq 27, 3) := by decide +kernel
theorem d_P_isInstruction_82 : decode b_P_isInstruction 82 = .ok (.iload_n 0, 1) := by decide +kernel
theorem d_P_isInstruction_83 : decode b_P_isInstruction 83 = .ok (.invokestatic 27, 3) := by decide +kernel
theorem d_P_isInstruction_86 : decode b_P_isInstruction 86 = .ok (.invokestatic 36, 3) := by decide +kernel
theorem d_P_isInstruction_89 : decode b_P_isInstruction 89 = .ok (.ifCond .eq 17, 3) := by decide +kernel
theorem d_P_isInstruction_92 : decode b_P_isInstruction 92 = .ok (.iload_n 0, 1) := by decide +kernel
theorem d_P_isInstruction_93 : decode b_P_isInstruction 93 = .ok (.invokestatic 39, 3) := by decide +kernel
theorem d_P_isInstruction_96 : decode b_P_isInstruction 96 = .ok (.invokestatic 36, 3) := by decide +kernel
theorem d_P_isInstruction_99 : decode b_P_isInstruction 99 = .ok (.ifCond .eq 7, 3) := by decide +kernel
theorem d_P_isInstruction_102 : decode b_P_isInstruction 102 = .ok (.iconst 1, 1) := by decide +kernel
theorem d_P_isInstruction_103 : decode b_P_isInstruction 103 = .ok (.goto 4, 3) := by decide +kernel
theorem d_P_isInstruction_106 : decode b_P_isInstruction 106 = .ok (.iconst 0, 1) := by decide +kernel
theorem d_P_isInstruction_107 : decode b_P_isInstruction 107 = .ok (.ireturn, 1) := by decide +kernel
theorem d_P_isInstruction_108 : decode b_P_isInstruction 108 = .ok (.iload_n 0, 1) := by decide +kernel
theorem d_P_isInstruction_109 : decode b_P_isInstruction 109 = .ok (.invokestatic 33, 3) := by decide +kernel
theorem d_P_isInstruction_112 : decode b_P_isInstruction 112 = .ok (.invokestatic 36, 3) := by decide +kernel
theorem d_P_isInstruction_115 : decode b_P_isInstruction 115 = .ok (.ifCond .eq 17, 3) := by decide +kernel
theorem d_P_isInstruction_118 : decode b_P_isInstruction 118 = .ok (.iload_n 0, 1) := by decide +kernel
theorem d_P_isInstruction_119 : decode b_P_isInstruction 119 = .ok (.invokestatic 27, 3) := by decide +kernel
theorem d_P_isInstruction_122 : decode b_P_isInstruction 122 = .ok (.invokestatic 36, 3) := by decide +kernel
theorem d_P_isInstruction_125 : decode b_P_isInstruction 125 = .ok (.ifCond .eq 7, 3) := by decide +kernel
theorem d_P_isInstruction_128 : decode b_P_isInstruction 128 = .ok (.iconst 1, 1) := by decide +kernel
theorem d_P_isInstruction_129 : decode b_P_isInstruction 129 = .ok (.goto 4, 3) := by decide +kernel
theorem d_P_isInstruction_132 : decode b_P_isInstruction 132 = .ok (.iconst 0, 1) := by decide +kernel
theorem d_P_isInstruction_133 : decode b_P_isInstruction 133 = .ok (.ireturn, 1) := by decide +kernel
theorem d_P_isInstruction_134 : decode b_P_isInstruction 134 = .ok (.iconst 1, 1) := by decide +kernel
theorem d_P_isInstruction_135 : decode b_P_isInstruction 135 = .ok (.ireturn, 1) := by decide +kernel
theorem d_P_isInstruction_136 : decode b_P_isInstruction 136 = .ok (.iconst 0, 1) := by decide +kernel
theorem d_P_isInstruction_137 : decode b_P_isInstruction 137 = .ok (.ireturn, 1) := by decide +kernel
theorem d_P_wrap_0 : decode b_P_wrap 0 = .ok (.aload_n 0, 1) := by decide +kernel
theorem d_P_wrap_1 : decode b_P_wrap 1 = .ok (.getfield 15, 3) := by decide +kernel
theorem d_P_wrap_4 : decode b_P_wrap 4 = .ok (.ifCond .le 12, 3) := by decide +kernel
theorem d_P_wrap_7 : decode b_P_wrap 7 = .ok (.iload_n 1, 1) := by decide +kernel
theorem d_P_wrap_8 : decode b_P_wrap 8 = .ok (.aload_n 0, 1) := by decide +kernel
theorem d_P_wrap_9 : decode b_P_wrap 9 = .ok (.getfield 15, 3) := by decide +kernel
theorem d_P_wrap_12 : decode b_P_wrap 12 = .ok (.irem, 1) := by decide +kernel
theorem d_P_wrap_13 : decode b_P_wrap 13 = .ok (.goto 4, 3) := by decide +kernel
theorem d_P_wrap_16 : decode b_P_wrap 16 = .ok (.iconst 0, 1) := by decide +kernel
theorem d_P_wrap_17 : decode b_P_wrap 17 = .ok (.ireturn, 1) := by decide +kernel
theorem d_P_instructionAt_0 : decode b_P_instructionAt 0 = .ok (.aload_n 0, 1) := by decide +kernel
theorem d_P_instructionAt_1 : decode b_P_instructionAt 1 = .ok (.getfield 11, 3) := by decide +kernel
theorem d_P_instructionAt_4 : decode b_P_instructionAt 4 = .ok (.aload_n 0, 1) := by decide +kernel
theorem d_P_instructionAt_5 : decode b_P_instructionAt 5 = .ok (.iload_n 1, 1) := by decide +kernel
theorem d_P_instructionAt_6 : decode b_P_instructionAt 6 = .ok (.invokevirtual 30, 3) := by decide +kernel
theorem d_P_instructionAt_9 : decode b_P_instructionAt 9 = .ok (.iaload, 1) := by decide +kernel
theorem d_P_instructionAt_10 : decode b_P_instructionAt 10 = .ok (.ireturn, 1) := by decide +kernel
theorem d_C_wishNothing_0 : decode b_C_wishNothing 0 = .ok (.aload_n 0, 1) := by decide +kernel
theorem d_C_wishNothing_1 : decode b_C_wishNothing 1 = .ok (.iconst 0, 1) := by decide +kernel
theorem d_C_wishNothing_2 : decode b_C_wishNothing 2 = .ok (.putfield 28, 3) := by decide +kernel
theorem d_C_wishNothing_5 : decode b_C_wishNothing 5 = .ok (.aload_n 0, 1) := by decide +kernel
theorem d_C_wishNothing_6 : decode b_C_wishNothing 6 = .ok (.iconst 0, 1) := by decide +kernel
theorem d_C_wishNothing_7 : decode b_C_wishNothing 7 = .ok (.putfield 31, 3) := by decide +kernel
theorem d_C_wishNothing_10 : decode b_C_wishNothing 10 = .ok (.return_, 1) := by decide +kernel
theorem d_C_clearEffects_0 : decode b_C_clearEffects 0 = .ok (.aload_n 0, 1) := by decide +kernel
theorem d_C_clearEffects_1 : decode b_C_clearEffects 1 = .ok (.invokevirtual 19, 3) := by decide +kernel
theorem d_C_clearEffects_4 : decode b_C_clearEffects 4 = .ok (.aload_n 0, 1) := by decide +kernel
theorem d_C_clearEffects_5 : decode b_C_clearEffects 5 = .ok (.iconst (-1), 1) := by decide +kernel
theorem d_C_clearEffects_6 : decode b_C_clearEffects 6 = .ok (.putfield 22, 3) := by decide +kernel
theorem d_C_clearEffects_9 : decode b_C_clearEffects 9 = .ok (.aload_n 0, 1) := by decide +kernel
theorem d_C_clearEffects_10 : decode b_C_clearEffects 10 = .ok (.iconst (-1), 1) := by decide +kernel
theorem d_C_clearEffects_11 : decode b_C_clearEffects 11 = .ok (.putfield 25, 3) := by decide +kernel
theorem d_C_clearEffects_14 : decode b_C_clearEffects 14 = .ok (.return_, 1) := by decide +kernel
theorem d_C_clearProcessor_0 : decode b_C_clearProcessor 0 = .ok (.iconst 0, 1) := by decide +kernel
theorem d_C_clearProcessor_1 : decode b_C_clearProcessor 1 = .ok (.istore_n 1, 1) := by decide +kernel
theorem d_C_clearProcessor_2 : decode b_C_clearProcessor 2 = .ok (.iload_n 1, 1) := by decide +kernel
theorem d_C_clearProcessor_3 : decode b_C_clearProcessor 3 = .ok (.bipush 8, 2) := by decide +kernel
theorem d_C_clearProcessor_5 : decode b_C_clearProcessor 5 = .ok (.if_icmp .ge 16, 3) := by decide +kernel
theorem d_C_clearProcessor_8 : decode b_C_clearProcessor 8 = .ok (.aload_n 0, 1) := by decide +kernel
theorem d_C_clearProcessor_9 : decode b_C_clearProcessor 9 = .ok (.getfield 9, 3) := by decide +kernel
theorem d_C_clearProcessor_12 : decode b_C_clearProcessor 12 = .ok (.iload_n 1, 1) := by decide +kernel
theorem d_C_clearProcessor_13 : decode b_C_clearProcessor 13 = .ok (.iconst 0, 1) := by decide +kernel
theorem d_C_clearProcessor_14 : decode b_C_clearProcessor 14 = .ok (.iastore, 1) := by decide +kernel
theorem d_C_clearProcessor_15 : decode b_C_clearProcessor 15 = .ok (.iinc 1 1, 3) := by decide +kernel
theorem d_C_clearProcessor_18 : decode b_C_clearProcessor 18 = .ok (.goto (-16), 3) := by decide +kernel
theorem d_C_clearProcessor_21 : decode b_C_clearProcessor 21 = .ok (.aload_n 0, 1) := by decide +kernel
theorem d_C_clearProcessor_22 : decode b_C_clearProcessor 22 = .ok (.iconst 0, 1) := by decide +kernel
theorem d_C_clearProcessor_23 : decode b_C_clearProcessor 23 = .ok (.putfield 15, 3) := by decide +kernel
theorem d_C_clearProcessor_26 : decode b_C_clearProcessor 26 = .ok (.return_, 1) := by decide +kernel
theorem d_C_passOver_0 : decode b_C_passOver 0 = .ok (.aload_n 0, 1) := by decide +kernel
theorem d_C_passOver_1 : decode b_C_passOver 1 = .ok (.aload_n 1, 1) := by decide +kernel
theorem d_C_passOver_2 : decode b_C_passOver 2 = .ok (.aload_n 0, 1) := by decide +kernel
theorem d_C_passOver_3 : decode b_C_passOver 3 = .ok (.getfield 15, 3) := by decide +kernel
theorem d_C_passOver_6 : decode b_C_passOver 6 = .ok (.iconst 1, 1) := by decide +kernel
theorem d_C_passOver_7 : decode b_C_passOver 7 = .ok (.iadd, 1) := by decide +kernel
theorem d_C_passOver_8 : decode b_C_passOver 8 = .ok (.invokevirtual 34, 3) := by decide +kernel
theorem d_C_passOver_11 : decode b_C_passOver 11 = .ok (.putfield 15, 3) := by decide +kernel
theorem d_C_passOver_14 : decode b_C_passOver 14 = .ok (.return_, 1) := by decide +kernel
theorem d_C_reckon_0 : decode b_C_reckon 0 = .ok (.iload_n 0, 1) := by decide +kernel
theorem d_C_reckon_1 : decode b_C_reckon 1 = .ok (.tableswitch 45 1 3 #[27, 34, 41], 27) := by decide +kernel
theorem d_C_reckon_28 : decode b_C_reckon 28 = .ok (.iload_n 1, 1) := by decide +kernel
theorem d_C_reckon_29 : decode b_C_reckon 29 = .ok (.iload_n 2, 1) := by decide +kernel
theorem d_C_reckon_30 : decode b_C_reckon 30 = .ok (.iadd, 1) := by decide +kernel
theorem d_C_reckon_31 : decode b_C_reckon 31 = .ok (.ldc 75, 2) := by decide +kernel
theorem d_C_reckon_33 : decode b_C_reckon 33 = .ok (.iand, 1) := by decide +kernel
theorem d_C_reckon_34 : decode b_C_reckon 34 = .ok (.ireturn, 1) := by decide +kernel
theorem d_C_reckon_35 : decode b_C_reckon 35 = .ok (.iload_n 1, 1) := by decide +kernel
theorem d_C_reckon_36 : decode b_C_reckon 36 = .ok (.iload_n 2, 1) := by decide +kernel
theorem d_C_reckon_37 : decode b_C_reckon 37 = .ok (.isub, 1) := by decide +kernel
theorem d_C_reckon_38 : decode b_C_reckon 38 = .ok (.ldc 75, 2) := by decide +kernel
theorem d_C_reckon_40 : decode b_C_reckon 40 = .ok (.iand, 1) := by decide +kernel
theorem d_C_reckon_41 : decode b_C_reckon 41 = .ok (.ireturn, 1) := by decide +kernel
theorem d_C_reckon_42 : decode b_C_reckon 42 = .ok (.iload_n 1, 1) := by decide +kernel
theorem d_C_reckon_43 : decode b_C_reckon 43 = .ok (.iload_n 2, 1) := by decide +kernel
theorem d_C_reckon_44 : decode b_C_reckon 44 = .ok (.ixor, 1) := by decide +kernel
theorem d_C_reckon_45 : decode b_C_reckon 45 = .ok (.ireturn, 1) := by decide +kernel
theorem d_C_reckon_46 : decode b_C_reckon 46 = .ok (.iload_n 1, 1) := by decide +kernel
theorem d_C_reckon_47 : decode b_C_reckon 47 = .ok (.iload_n 2, 1) := by decide +kernel
theorem d_C_reckon_48 : decode b_C_reckon 48 = .ok (.bipush 15, 2) := by decide +kernel
theorem d_C_reckon_50 : decode b_C_reckon 50 = .ok (.iand, 1) := by decide +kernel
theorem d_C_reckon_51 : decode b_C_reckon 51 = .ok (.iushr, 1) := by decide +kernel
theorem d_C_reckon_52 : decode b_C_reckon 52 = .ok (.ireturn, 1) := by decide +kernel
theorem d_K_wordOf_0 : decode b_K_wordOf 0 = .ok (.iload_n 0, 1) := by decide +kernel
theorem d_K_wordOf_1 : decode b_K_wordOf 1 = .ok (.iconst 3, 1) := by decide +kernel
theorem d_K_wordOf_2 : decode b_K_wordOf 2 = .ok (.ishr, 1) := by decide +kernel
theorem d_K_wordOf_3 : decode b_K_wordOf 3 = .ok (.iconst 1, 1) := by decide +kernel
theorem d_K_wordOf_4 : decode b_K_wordOf 4 = .ok (.iand, 1) := by decide +kernel
theorem d_K_wordOf_5 : decode b_K_wordOf 5 = .ok (.iload_n 0, 1) := by decide +kernel
theorem d_K_wordOf_6 : decode b_K_wordOf 6 = .ok (.iconst 4, 1) := by decide +kernel
theorem d_K_wordOf_7 : decode b_K_wordOf 7 = .ok (.ishr, 1) := by decide +kernel
theorem d_K_wordOf_8 : decode b_K_wordOf 8 = .ok (.bipush 14, 2) := by decide +kernel
theorem d_K_wordOf_10 : decode b_K_wordOf 10 = .ok (.iand, 1) := by decide +kernel
theorem d_K_wordOf_11 : decode b_K_wordOf 11 = .ok (.ior, 1) := by decide +kernel
theorem d_K_wordOf_12 : decode b_K_wordOf 12 = .ok (.iload_n 0, 1) := by decide +kernel
theorem d_K_wordOf_13 : decode b_K_wordOf 13 = .ok (.iconst 5, 1) := by decide +kernel
theorem d_K_wordOf_14 : decode b_K_wordOf 14 = .ok (.ishr, 1) := by decide +kernel
theorem d_K_wordOf_15 : decode b_K_wordOf 15 = .ok (.sipush 2032, 3) := by decide +kernel
theorem d_K_wordOf_18 : decode b_K_wordOf 18 = .ok (.iand, 1) := by decide +kernel
theorem d_K_wordOf_19 : decode b_K_wordOf 19 = .ok (.ior, 1) := by decide +kernel
theorem d_K_wordOf_20 : decode b_K_wordOf 20 = .ok (.iload_n 0, 1) := by decide +kernel
theorem d_K_wordOf_21 : decode b_K_wordOf 21 = .ok (.bipush 6, 2) := by decide +kernel
theorem d_K_wordOf_23 : decode b_K_wordOf 23 = .ok (.ishr, 1) := by decide +kernel
theorem d_K_wordOf_24 : decode b_K_wordOf 24 = .ok (.ldc 7, 2) := by decide +kernel
theorem d_K_wordOf_26 : decode b_K_wordOf 26 = .ok (.iand, 1) := by decide +kernel
theorem d_K_wordOf_27 : decode b_K_wordOf 27 = .ok (.ior, 1) := by decide +kernel
theorem d_K_wordOf_28 : decode b_K_wordOf 28 = .ok (.ireturn, 1) := by decide +kernel
theorem d_D_findsSpoilt_0 : decode b_D_findsSpoilt 0 = .ok (.aload_n 0, 1) := by decide +kernel
theorem d_D_findsSpoilt_1 : decode b_D_findsSpoilt 1 = .ok (.getfield 9, 3) := by decide +kernel
theorem d_D_findsSpoilt_4 : decode b_D_findsSpoilt 4 = .ok (.iload_n 1, 1) := by decide +kernel
theorem d_D_findsSpoilt_5 : decode b_D_findsSpoilt 5 = .ok (.iaload, 1) := by decide +kernel
theorem d_D_findsSpoilt_6 : decode b_D_findsSpoilt 6 = .ok (.invokestatic 83, 3) := by decide +kernel
theorem d_D_findsSpoilt_9 : decode b_D_findsSpoilt 9 = .ok (.istore_n 2, 1) := by decide +kernel
theorem d_D_findsSpoilt_10 : decode b_D_findsSpoilt 10 = .ok (.aload_n 0, 1) := by decide +kernel
theorem d_D_findsSpoilt_11 : decode b_D_findsSpoilt 11 = .ok (.getfield 9, 3) := by decide +kernel
theorem d_D_findsSpoilt_14 : decode b_D_findsSpoilt 14 = .ok (.iload_n 1, 1) := by decide +kernel
theorem d_D_findsSpoilt_15 : decode b_D_findsSpoilt 15 = .ok (.iaload, 1) := by decide +kernel
theorem d_D_findsSpoilt_16 : decode b_D_findsSpoilt 16 = .ok (.invokestatic 86, 3) := by decide +kernel
theorem d_D_findsSpoilt_19 : decode b_D_findsSpoilt 19 = .ok (.iconst 1, 1) := by decide +kernel
theorem d_D_findsSpoilt_20 : decode b_D_findsSpoilt 20 = .ok (.iand, 1) := by decide +kernel
theorem d_D_findsSpoilt_21 : decode b_D_findsSpoilt 21 = .ok (.ifCond .ne 13, 3) := by decide +kernel
theorem d_D_findsSpoilt_24 : decode b_D_findsSpoilt 24 = .ok (.iload_n 2, 1) := by decide +kernel
theorem d_D_findsSpoilt_25 : decode b_D_findsSpoilt 25 = .ok (.ifCond .eq 7, 3) := by decide +kernel
theorem d_D_findsSpoilt_28 : decode b_D_findsSpoilt 28 = .ok (.iconst 1, 1) := by decide +kernel
theorem d_D_findsSpoilt_29 : decode b_D_findsSpoilt 29 = .ok (.goto 4, 3) := by decide +kernel
theorem d_D_findsSpoilt_32 : decode b_D_findsSpoilt 32 = .ok (.iconst 0, 1) := by decide +kernel
theorem d_D_findsSpoilt_33 : decode b_D_findsSpoilt 33 = .ok (.ireturn, 1) := by decide +kernel
theorem d_D_findsSpoilt_34 : decode b_D_findsSpoilt 34 = .ok (.iload_n 2, 1) := by decide +kernel
theorem d_D_findsSpoilt_35 : decode b_D_findsSpoilt 35 = .ok (.bipush 22, 2) := by decide +kernel
theorem d_D_findsSpoilt_37 : decode b_D_findsSpoilt 37 = .ok (.if_icmp .lt 5, 3) := by decide +kernel
theorem d_D_findsSpoilt_40 : decode b_D_findsSpoilt 40 = .ok (.iconst 1, 1) := by decide +kernel
theorem d_D_findsSpoilt_41 : decode b_D_findsSpoilt 41 = .ok (.ireturn, 1) := by decide +kernel
theorem d_D_findsSpoilt_42 : decode b_D_findsSpoilt 42 = .ok (.aload_n 0, 1) := by decide +kernel
theorem d_D_findsSpoilt_43 : decode b_D_findsSpoilt 43 = .ok (.getfield 9, 3) := by decide +kernel
theorem d_D_findsSpoilt_46 : decode b_D_findsSpoilt 46 = .ok (.iload_n 1, 1) := by decide +kernel
theorem d_D_findsSpoilt_47 : decode b_D_findsSpoilt 47 = .ok (.dup2, 1) := by decide +kernel
theorem d_D_findsSpoilt_48 : decode b_D_findsSpoilt 48 = .ok (.iaload, 1) := by decide +kernel
theorem d_D_findsSpoilt_49 : decode b_D_findsSpoilt 49 = .ok (.iconst 1, 1) := by decide +kernel
theorem d_D_findsSpoilt_50 : decode b_D_findsSpoilt 50 = .ok (.iload_n 2, 1) := by decide +kernel
theorem d_D_findsSpoilt_51 : decode b_D_findsSpoilt 51 = .ok (.ishl, 1) := by decide +kernel
theorem d_D_findsSpoilt_52 : decode b_D_findsSpoilt 52 = .ok (.ixor, 1) := by decide +kernel
theorem d_D_findsSpoilt_53 : decode b_D_findsSpoilt 53 = .ok (.iastore, 1) := by decide +kernel
theorem d_D_findsSpoilt_54 : decode b_D_findsSpoilt 54 = .ok (.aload_n 0, 1) := by decide +kernel
theorem d_D_findsSpoilt_55 : decode b_D_findsSpoilt 55 = .ok (.dup, 1) := by decide +kernel
theorem d_D_findsSpoilt_56 : decode b_D_findsSpoilt 56 = .ok (.getfield 39, 3) := by decide +kernel
theorem d_D_findsSpoilt_59 : decode b_D_findsSpoilt 59 = .ok (.iconst 1, 1) := by decide +kernel
theorem d_D_findsSpoilt_60 : decode b_D_findsSpoilt 60 = .ok (.iadd, 1) := by decide +kernel
theorem d_D_findsSpoilt_61 : decode b_D_findsSpoilt 61 = .ok (.putfield 39, 3) := by decide +kernel
theorem d_D_findsSpoilt_64 : decode b_D_findsSpoilt 64 = .ok (.iconst 0, 1) := by decide +kernel
theorem d_D_findsSpoilt_65 : decode b_D_findsSpoilt 65 = .ok (.ireturn, 1) := by decide +kernel
theorem d_D_writeWord_0 : decode b_D_writeWord 0 = .ok (.aload_n 0, 1) := by decide +kernel
theorem d_D_writeWord_1 : decode b_D_writeWord 1 = .ok (.getfield 9, 3) := by decide +kernel
theorem d_D_writeWord_4 : decode b_D_writeWord 4 = .ok (.iload_n 1, 1) := by decide +kernel
theorem d_D_writeWord_5 : decode b_D_writeWord 5 = .ok (.iload_n 2, 1) := by decide +kernel
theorem d_D_writeWord_6 : decode b_D_writeWord 6 = .ok (.invokestatic 80, 3) := by decide +kernel
theorem d_D_writeWord_9 : decode b_D_writeWord 9 = .ok (.iastore, 1) := by decide +kernel
theorem d_D_writeWord_10 : decode b_D_writeWord 10 = .ok (.return_, 1) := by decide +kernel
theorem d_D_readWord_0 : decode b_D_readWord 0 = .ok (.aload_n 0, 1) := by decide +kernel
theorem d_D_readWord_1 : decode b_D_readWord 1 = .ok (.iload_n 1, 1) := by decide +kernel
theorem d_D_readWord_2 : decode b_D_readWord 2 = .ok (.invokevirtual 72, 3) := by decide +kernel
theorem d_D_readWord_5 : decode b_D_readWord 5 = .ok (.ifCond .eq 10, 3) := by decide +kernel
theorem d_D_readWord_8 : decode b_D_readWord 8 = .ok (.aload_n 0, 1) := by decide +kernel
theorem d_D_readWord_9 : decode b_D_readWord 9 = .ok (.iconst 1, 1) := by decide +kernel
theorem d_D_readWord_10 : decode b_D_readWord 10 = .ok (.putfield 54, 3) := by decide +kernel
theorem d_D_readWord_13 : decode b_D_readWord 13 = .ok (.iconst 0, 1) := by decide +kernel
theorem d_D_readWord_14 : decode b_D_readWord 14 = .ok (.ireturn, 1) := by decide +kernel
theorem d_D_readWord_15 : decode b_D_readWord 15 = .ok (.aload_n 0, 1) := by decide +kernel
theorem d_D_readWord_16 : decode b_D_readWord 16 = .ok (.getfield 9, 3) := by decide +kernel
theorem d_D_readWord_19 : decode b_D_readWord 19 = .ok (.iload_n 1, 1) := by decide +kernel
theorem d_D_readWord_20 : decode b_D_readWord 20 = .ok (.iaload, 1) := by decide +kernel
theorem d_D_readWord_21 : decode b_D_readWord 21 = .ok (.invokestatic 76, 3) := by decide +kernel
theorem d_D_readWord_24 : decode b_D_readWord 24 = .ok (.ireturn, 1) := by decide +kernel
theorem d_C_receive_0 : decode b_C_receive 0 = .ok (.aload_n 0, 1) := by decide +kernel
theorem d_C_receive_1 : decode b_C_receive 1 = .ok (.getfield 22, 3) := by decide +kernel
theorem d_C_receive_4 : decode b_C_receive 4 = .ok (.iconst (-1), 1) := by decide +kernel
theorem d_C_receive_5 : decode b_C_receive 5 = .ok (.if_icmp .eq 13, 3) := by decide +kernel
theorem d_C_receive_8 : decode b_C_receive 8 = .ok (.aload_n 0, 1) := by decide +kernel
theorem d_C_receive_9 : decode b_C_receive 9 = .ok (.getfield 9, 3) := by decide +kernel
theorem d_C_receive_12 : decode b_C_receive 12 = .ok (.aload_n 0, 1) := by decide +kernel
theorem d_C_receive_13 : decode b_C_receive 13 = .ok (.getfield 22, 3) := by decide +kernel
theorem d_C_receive_16 : decode b_C_receive 16 = .ok (.iload_n 1, 1) := by decide +kernel
theorem d_C_receive_17 : decode b_C_receive 17 = .ok (.iastore, 1) := by decide +kernel
theorem d_C_receive_18 : decode b_C_receive 18 = .ok (.return_, 1) := by decide +kernel
theorem d_C_execute_0 : decode b_C_execute 0 = .ok (.aload_n 1, 1) := by decide +kernel
theorem d_C_execute_1 : decode b_C_execute 1 = .ok (.aload_n 0, 1) := by decide +kernel
theorem d_C_execute_2 : decode b_C_execute 2 = .ok (.getfield 15, 3) := by decide +kernel
theorem d_C_execute_5 : decode b_C_execute 5 = .ok (.invokevirtual 40, 3) := by decide +kernel
theorem d_C_execute_8 : decode b_C_execute 8 = .ok (.istore_n 2, 1) := by decide +kernel
theorem d_C_execute_9 : decode b_C_execute 9 = .ok (.aload_n 0, 1) := by decide +kernel
theorem d_C_execute_10 : decode b_C_execute 10 = .ok (.aload_n 1, 1) := by decide +kernel
theorem d_C_execute_11 : decode b_C_execute 11 = .ok (.invokevirtual 43, 3) := by decide +kernel
theorem d_C_execute_14 : decode b_C_execute 14 = .ok (.iload_n 2, 1) := by decide +kernel
theorem d_C_execute_15 : decode b_C_execute 15 = .ok (.invokestatic 47, 3) := by decide +kernel
theorem d_C_execute_18 : decode b_C_execute 18 = .ok (.istore_n 3, 1) := by decide +kernel
theorem d_C_execute_19 : decode b_C_execute 19 = .ok (.iload_n 2, 1) := by decide +kernel
theorem d_C_execute_20 : decode b_C_execute 20 = .ok (.invokestatic 50, 3) := by decide +kernel
theorem d_C_execute_23 : decode b_C_execute 23 = .ok (.istore 4, 2) := by decide +kernel
theorem d_C_execute_25 : decode b_C_execute 25 = .ok (.iload_n 2, 1) := by decide +kernel
theorem d_C_execute_26 : decode b_C_execute 26 = .ok (.invokestatic 53, 3) := by decide +kernel
theorem d_C_execute_29 : decode b_C_execute 29 = .ok (.istore 5, 2) := by decide +kernel
theorem d_C_execute_31 : decode b_C_execute 31 = .ok (.iload_n 2, 1) := by decide +kernel
theorem d_C_execute_32 : decode b_C_execute 32 = .ok (.invokestatic 56, 3) := by decide +kernel
theorem d_C_execute_35 : decode b_C_execute 35 = .ok (.tableswitch 208 0 10 #[57, 208, 208, 208, 208, 75, 101, 143, 168, 177, 190], 57) := by decide +kernel
theorem d_C_execute_92 : decode b_C_execute 92 = .ok (.aload_n 0, 1) := by decide +kernel
theorem d_C_execute_93 : decode b_C_execute 93 = .ok (.getfield 9, 3) := by decide +kernel
theorem d_C_execute_96 : decode b_C_execute 96 = .ok (.iload_n 3, 1) := by decide +kernel
theorem d_C_execute_97 : decode b_C_execute 97 = .ok (.iload 4, 2) := by decide +kernel
theorem d_C_execute_99 : decode b_C_execute 99 = .ok (.sipush 256, 3) := by decide +kernel
theorem d_C_execute_102 : decode b_C_execute 102 = .ok (.imul, 1) := by decide +kernel
theorem d_C_execute_103 : decode b_C_execute 103 = .ok (.iload 5, 2) := by decide +kernel
theorem d_C_execute_105 : decode b_C_execute 105 = .ok (.iadd, 1) := by decide +kernel
theorem d_C_execute_106 : decode b_C_execute 106 = .ok (.iastore, 1) := by decide +kernel
theorem d_C_execute_107 : decode b_C_execute 107 = .ok (.goto 163, 3) := by decide +kernel
theorem d_C_execute_110 : decode b_C_execute 110 = .ok (.aload_n 0, 1) := by decide +kernel
theorem d_C_execute_111 : decode b_C_execute 111 = .ok (.getfield 9, 3) := by decide +kernel
theorem d_C_execute_114 : decode b_C_execute 114 = .ok (.iload_n 3, 1) := by decide +kernel
theorem d_C_execute_115 : decode b_C_execute 115 = .ok (.aload_n 0, 1) := by decide +kernel
theorem d_C_execute_116 : decode b_C_execute 116 = .ok (.aload_n 0, 1) := by decide +kernel
theorem d_C_execute_117 : decode b_C_execute 117 = .ok (.getfield 9, 3) := by decide +kernel
theorem d_C_execute_120 : decode b_C_execute 120 = .ok (.iload 4, 2) := by decide +kernel
theorem d_C_execute_122 : decode b_C_execute 122 = .ok (.iaload, 1) := by decide +kernel
theorem d_C_execute_123 : decode b_C_execute 123 = .ok (.iload 5, 2) := by decide +kernel
theorem d_C_execute_125 : decode b_C_execute 125 = .ok (.iadd, 1) := by decide +kernel
theorem d_C_execute_126 : decode b_C_execute 126 = .ok (.bipush 32, 2) := by decide +kernel
theorem d_C_execute_128 : decode b_C_execute 128 = .ok (.irem, 1) := by decide +kernel
theorem d_C_execute_129 : decode b_C_execute 129 = .ok (.invokevirtual 59, 3) := by decide +kernel
theorem d_C_execute_132 : decode b_C_execute 132 = .ok (.iastore, 1) := by decide +kernel
theorem d_C_execute_133 : decode b_C_execute 133 = .ok (.goto 137, 3) := by decide +kernel
theorem d_C_execute_136 : decode b_C_execute 136 = .ok (.aload_n 0, 1) := by decide +kernel
theorem d_C_execute_137 : decode b_C_execute 137 = .ok (.aload_n 0, 1) := by decide +kernel
theorem d_C_execute_138 : decode b_C_execute 138 = .ok (.getfield 9, 3) := by decide +kernel
theorem d_C_execute_141 : decode b_C_execute 141 = .ok (.iload 4, 2) := by decide +kernel
theorem d_C_execute_143 : decode b_C_execute 143 = .ok (.iaload, 1) := by decide +kernel
theorem d_C_execute_144 : decode b_C_execute 144 = .ok (.iload 5, 2) := by decide +kernel
theorem d_C_execute_146 : decode b_C_execute 146 = .ok (.iadd, 1) := by decide +kernel
theorem d_C_execute_147 : decode b_C_execute 147 = .ok (.bipush 32, 2) := by decide +kernel
theorem d_C_execute_149 : decode b_C_execute 149 = .ok (.irem, 1) := by decide +kernel
theorem d_C_execute_150 : decode b_C_execute 150 = .ok (.putfield 25, 3) := by decide +kernel
theorem d_C_execute_153 : decode b_C_execute 153 = .ok (.aload_n 0, 1) := by decide +kernel
theorem d_C_execute_154 : decode b_C_execute 154 = .ok (.aload_n 0, 1) := by decide +kernel
theorem d_C_execute_155 : decode b_C_execute 155 = .ok (.getfield 9, 3) := by decide +kernel
theorem d_C_execute_158 : decode b_C_execute 158 = .ok (.iload_n 3, 1) := by decide +kernel
theorem d_C_execute_159 : decode b_C_execute 159 = .ok (.iaload, 1) := by decide +kernel
theorem d_C_execute_160 : decode b_C_execute 160 = .ok (.putfield 62, 3) := by decide +kernel
theorem d_C_execute_163 : decode b_C_execute 163 = .ok (.aload_n 0, 1) := by decide +kernel
theorem d_C_execute_164 : decode b_C_execute 164 = .ok (.aload_n 0, 1) := by decide +kernel
theorem d_C_execute_165 : decode b_C_execute 165 = .ok (.getfield 25, 3) := by decide +kernel
theorem d_C_execute_168 : decode b_C_execute 168 = .ok (.aload_n 0, 1) := by decide +kernel
theorem d_C_execute_169 : decode b_C_execute 169 = .ok (.getfield 62, 3) := by decide +kernel
theorem d_C_execute_172 : decode b_C_execute 172 = .ok (.invokevirtual 65, 3) := by decide +kernel
theorem d_C_execute_175 : decode b_C_execute 175 = .ok (.goto 95, 3) := by decide +kernel
theorem d_C_execute_178 : decode b_C_execute 178 = .ok (.aload_n 0, 1) := by decide +kernel
theorem d_C_execute_179 : decode b_C_execute 179 = .ok (.aload_n 0, 1) := by decide +kernel
theorem d_C_execute_180 : decode b_C_execute 180 = .ok (.getfield 9, 3) := by decide +kernel
theorem d_C_execute_183 : decode b_C_execute 183 = .ok (.iload_n 3, 1) := by decide +kernel
theorem d_C_execute_184 : decode b_C_execute 184 = .ok (.iaload, 1) := by decide +kernel
theorem d_C_execute_185 : decode b_C_execute 185 = .ok (.ifCond .ne 8, 3) := by decide +kernel
theorem d_C_execute_188 : decode b_C_execute 188 = .ok (.iload 4, 2) := by decide +kernel
theorem d_C_execute_190 : decode b_C_execute 190 = .ok (.goto 7, 3) := by decide +kernel
theorem d_C_execute_193 : decode b_C_execute 193 = .ok (.aload_n 0, 1) := by decide +kernel
theorem d_C_execute_194 : decode b_C_execute 194 = .ok (.getfield 15, 3) := by decide +kernel
theorem d_C_execute_197 : decode b_C_execute 197 = .ok (.putfield 15, 3) := by decide +kernel
theorem d_C_execute_200 : decode b_C_execute 200 = .ok (.goto 70, 3) := by decide +kernel
theorem d_C_execute_203 : decode b_C_execute 203 = .ok (.aload_n 0, 1) := by decide +kernel
theorem d_C_execute_204 : decode b_C_execute 204 = .ok (.iload 4, 2) := by decide +kernel
theorem d_C_execute_206 : decode b_C_execute 206 = .ok (.putfield 15, 3) := by decide +kernel
theorem d_C_execute_209 : decode b_C_execute 209 = .ok (.goto 61, 3) := by decide +kernel
theorem d_C_execute_212 : decode b_C_execute 212 = .ok (.aload_n 0, 1) := by decide +kernel
theorem d_C_execute_213 : decode b_C_execute 213 = .ok (.iconst 1, 1) := by decide +kernel
theorem d_C_execute_214 : decode b_C_execute 214 = .ok (.putfield 28, 3) := by decide +kernel
theorem d_C_execute_217 : decode b_C_execute 217 = .ok (.aload_n 0, 1) := by decide +kernel
theorem d_C_execute_218 : decode b_C_execute 218 = .ok (.iload_n 3, 1) := by decide +kernel
theorem d_C_execute_219 : decode b_C_execute 219 = .ok (.putfield 22, 3) := by decide +kernel
theorem d_C_execute_222 : decode b_C_execute 222 = .ok (.goto 48, 3) := by decide +kernel
theorem d_C_execute_225 : decode b_C_execute 225 = .ok (.aload_n 0, 1) := by decide +kernel
theorem d_C_execute_226 : decode b_C_execute 226 = .ok (.iconst 2, 1) := by decide +kernel
theorem d_C_execute_227 : decode b_C_execute 227 = .ok (.putfield 28, 3) := by decide +kernel
theorem d_C_execute_230 : decode b_C_execute 230 = .ok (.aload_n 0, 1) := by decide +kernel
theorem d_C_execute_231 : decode b_C_execute 231 = .ok (.aload_n 0, 1) := by decide +kernel
theorem d_C_execute_232 : decode b_C_execute 232 = .ok (.getfield 9, 3) := by decide +kernel
theorem d_C_execute_235 : decode b_C_execute 235 = .ok (.iload_n 3, 1) := by decide +kernel
theorem d_C_execute_236 : decode b_C_execute 236 = .ok (.iaload, 1) := by decide +kernel
theorem d_C_execute_237 : decode b_C_execute 237 = .ok (.putfield 31, 3) := by decide +kernel
theorem d_C_execute_240 : decode b_C_execute 240 = .ok (.goto 30, 3) := by decide +kernel
theorem d_C_execute_243 : decode b_C_execute 243 = .ok (.aload_n 0, 1) := by decide +kernel
theorem d_C_execute_244 : decode b_C_execute 244 = .ok (.getfield 9, 3) := by decide +kernel
theorem d_C_execute_247 : decode b_C_execute 247 = .ok (.iload_n 3, 1) := by decide +kernel
theorem d_C_execute_248 : decode b_C_execute 248 = .ok (.iload_n 2, 1) := by decide +kernel
theorem d_C_execute_249 : decode b_C_execute 249 = .ok (.invokestatic 56, 3) := by decide +kernel
theorem d_C_execute_252 : decode b_C_execute 252 = .ok (.aload_n 0, 1) := by decide +kernel
theorem d_C_execute_253 : decode b_C_execute 253 = .ok (.getfield 9, 3) := by decide +kernel
theorem d_C_execute_256 : decode b_C_execute 256 = .ok (.iload 4, 2) := by decide +kernel
theorem d_C_execute_258 : decode b_C_execute 258 = .ok (.iaload, 1) := by decide +kernel
theorem d_C_execute_259 : decode b_C_execute 259 = .ok (.aload_n 0, 1) := by decide +kernel
theorem d_C_execute_260 : decode b_C_execute 260 = .ok (.getfield 9, 3) := by decide +kernel
theorem d_C_execute_263 : decode b_C_execute 263 = .ok (.iload 5, 2) := by decide +kernel
theorem d_C_execute_265 : decode b_C_execute 265 = .ok (.iaload, 1) := by decide +kernel
theorem d_C_execute_266 : decode b_C_execute 266 = .ok (.invokestatic 69, 3) := by decide +kernel
theorem d_C_execute_269 : decode b_C_execute 269 = .ok (.iastore, 1) := by decide +kernel
theorem d_C_execute_270 : decode b_C_execute 270 = .ok (.return_, 1) := by decide +kernel
theorem d_D_isTrusted_0 : decode b_D_isTrusted 0 = .ok (.aload_n 0, 1) := by decide +kernel
theorem d_D_isTrusted_1 : decode b_D_isTrusted 1 = .ok (.getfield 22, 3) := by decide +kernel
theorem d_D_isTrusted_4 : decode b_D_isTrusted 4 = .ok (.ifCond .ne 14, 3) := by decide +kernel
theorem d_D_isTrusted_7 : decode b_D_isTrusted 7 = .ok (.aload_n 0, 1) := by decide +kernel
theorem d_D_isTrusted_8 : decode b_D_isTrusted 8 = .ok (.getfield 48, 3) := by decide +kernel
theorem d_D_isTrusted_11 : decode b_D_isTrusted 11 = .ok (.ifCond .ne 7, 3) := by decide +kernel
theorem d_D_isTrusted_14 : decode b_D_isTrusted 14 = .ok (.iconst 1, 1) := by decide +kernel
theorem d_D_isTrusted_15 : decode b_D_isTrusted 15 = .ok (.goto 4, 3) := by decide +kernel
theorem d_D_isTrusted_18 : decode b_D_isTrusted 18 = .ok (.iconst 0, 1) := by decide +kernel
theorem d_D_isTrusted_19 : decode b_D_isTrusted 19 = .ok (.ireturn, 1) := by decide +kernel
theorem d_D_shownMark_0 : decode b_D_shownMark 0 = .ok (.aload_n 0, 1) := by decide +kernel
theorem d_D_shownMark_1 : decode b_D_shownMark 1 = .ok (.getfield 22, 3) := by decide +kernel
theorem d_D_shownMark_4 : decode b_D_shownMark 4 = .ok (.iconst 1, 1) := by decide +kernel
theorem d_D_shownMark_5 : decode b_D_shownMark 5 = .ok (.if_icmp .ne 8, 3) := by decide +kernel
theorem d_D_shownMark_8 : decode b_D_shownMark 8 = .ok (.aload_n 0, 1) := by decide +kernel
theorem d_D_shownMark_9 : decode b_D_shownMark 9 = .ok (.getfield 26, 3) := by decide +kernel
theorem d_D_shownMark_12 : decode b_D_shownMark 12 = .ok (.ireturn, 1) := by decide +kernel
theorem d_D_shownMark_13 : decode b_D_shownMark 13 = .ok (.aload_n 0, 1) := by decide +kernel
theorem d_D_shownMark_14 : decode b_D_shownMark 14 = .ok (.getfield 22, 3) := by decide +kernel
theorem d_D_shownMark_17 : decode b_D_shownMark 17 = .ok (.ifCond .ne 8, 3) := by decide +kernel
theorem d_D_shownMark_20 : decode b_D_shownMark 20 = .ok (.bipush 32, 2) := by decide +kernel
theorem d_D_shownMark_22 : decode b_D_shownMark 22 = .ok (.goto 4, 3) := by decide +kernel
theorem d_D_shownMark_25 : decode b_D_shownMark 25 = .ok (.iconst 0, 1) := by decide +kernel
theorem d_D_shownMark_26 : decode b_D_shownMark 26 = .ok (.ireturn, 1) := by decide +kernel
theorem d_D_wishAsBallot_0 : decode b_D_wishAsBallot 0 = .ok (.aload_n 0, 1) := by decide +kernel
theorem d_D_wishAsBallot_1 : decode b_D_wishAsBallot 1 = .ok (.getfield 57, 3) := by decide +kernel
theorem d_D_wishAsBallot_4 : decode b_D_wishAsBallot 4 = .ok (.iconst 2, 1) := by decide +kernel
theorem d_D_wishAsBallot_5 : decode b_D_wishAsBallot 5 = .ok (.imul, 1) := by decide +kernel
theorem d_D_wishAsBallot_6 : decode b_D_wishAsBallot 6 = .ok (.aload_n 0, 1) := by decide +kernel
theorem d_D_wishAsBallot_7 : decode b_D_wishAsBallot 7 = .ok (.getfield 54, 3) := by decide +kernel
theorem d_D_wishAsBallot_10 : decode b_D_wishAsBallot 10 = .ok (.ifCond .eq 7, 3) := by decide +kernel
theorem d_D_wishAsBallot_13 : decode b_D_wishAsBallot 13 = .ok (.iconst 1, 1) := by decide +kernel
theorem d_D_wishAsBallot_14 : decode b_D_wishAsBallot 14 = .ok (.goto 4, 3) := by decide +kernel
theorem d_D_wishAsBallot_17 : decode b_D_wishAsBallot 17 = .ok (.iconst 0, 1) := by decide +kernel
theorem d_D_wishAsBallot_18 : decode b_D_wishAsBallot 18 = .ok (.iadd, 1) := by decide +kernel
theorem d_D_wishAsBallot_19 : decode b_D_wishAsBallot 19 = .ok (.bipush 16, 2) := by decide +kernel
theorem d_D_wishAsBallot_21 : decode b_D_wishAsBallot 21 = .ok (.ishl, 1) := by decide +kernel
theorem d_D_wishAsBallot_22 : decode b_D_wishAsBallot 22 = .ok (.aload_n 0, 1) := by decide +kernel
theorem d_D_wishAsBallot_23 : decode b_D_wishAsBallot 23 = .ok (.getfield 60, 3) := by decide +kernel
theorem d_D_wishAsBallot_26 : decode b_D_wishAsBallot 26 = .ok (.ior, 1) := by decide +kernel
theorem d_D_wishAsBallot_27 : decode b_D_wishAsBallot 27 = .ok (.ireturn, 1) := by decide +kernel
theorem d_D_digest_0 : decode b_D_digest 0 = .ok (.aload_n 0, 1) := by decide +kernel
theorem d_D_digest_1 : decode b_D_digest 1 = .ok (.getfield 63, 3) := by decide +kernel
theorem d_D_digest_4 : decode b_D_digest 4 = .ok (.istore_n 1, 1) := by decide +kernel
theorem d_D_digest_5 : decode b_D_digest 5 = .ok (.iconst 0, 1) := by decide +kernel
theorem d_D_digest_6 : decode b_D_digest 6 = .ok (.istore_n 2, 1) := by decide +kernel
theorem d_D_digest_7 : decode b_D_digest 7 = .ok (.iload_n 2, 1) := by decide +kernel
theorem d_D_digest_8 : decode b_D_digest 8 = .ok (.bipush 8, 2) := by decide +kernel
theorem d_D_digest_10 : decode b_D_digest 10 = .ok (.if_icmp .ge 37, 3) := by decide +kernel
theorem d_D_digest_13 : decode b_D_digest 13 = .ok (.aload_n 0, 1) := by decide +kernel
theorem d_D_digest_14 : decode b_D_digest 14 = .ok (.getfield 66, 3) := by decide +kernel
theorem d_D_digest_17 : decode b_D_digest 17 = .ok (.iload_n 2, 1) := by decide +kernel
theorem d_D_digest_18 : decode b_D_digest 18 = .ok (.iaload, 1) := by decide +kernel
theorem d_D_digest_19 : decode b_D_digest 19 = .ok (.iload_n 2, 1) := by decide +kernel
theorem d_D_digest_20 : decode b_D_digest 20 = .ok (.ishl, 1) := by decide +kernel
theorem d_D_digest_21 : decode b_D_digest 21 = .ok (.aload_n 0, 1) := by decide +kernel
theorem d_D_digest_22 : decode b_D_digest 22 = .ok (.getfield 66, 3) := by decide +kernel
theorem d_D_digest_25 : decode b_D_digest 25 = .ok (.iload_n 2, 1) := by decide +kernel
theorem d_D_digest_26 : decode b_D_digest 26 = .ok (.iaload, 1) := by decide +kernel
theorem d_D_digest_27 : decode b_D_digest 27 = .ok (.bipush 16, 2) := by decide +kernel
theorem d_D_digest_29 : decode b_D_digest 29 = .ok (.iload_n 2, 1) := by decide +kernel
theorem d_D_digest_30 : decode b_D_digest 30 = .ok (.isub, 1) := by decide +kernel
theorem d_D_digest_31 : decode b_D_digest 31 = .ok (.iushr, 1) := by decide +kernel
theorem d_D_digest_32 : decode b_D_digest 32 = .ok (.ior, 1) := by decide +kernel
theorem d_D_digest_33 : decode b_D_digest 33 = .ok (.istore_n 3, 1) := by decide +kernel
theorem d_D_digest_34 : decode b_D_digest 34 = .ok (.iload_n 1, 1) := by decide +kernel
theorem d_D_digest_35 : decode b_D_digest 35 = .ok (.iload_n 3, 1) := by decide +kernel
theorem d_D_digest_36 : decode b_D_digest 36 = .ok (.ldc 71, 2) := by decide +kernel
theorem d_D_digest_38 : decode b_D_digest 38 = .ok (.iand, 1) := by decide +kernel
theorem d_D_digest_39 : decode b_D_digest 39 = .ok (.ixor, 1) := by decide +kernel
theorem d_D_digest_40 : decode b_D_digest 40 = .ok (.istore_n 1, 1) := by decide +kernel
theorem d_D_digest_41 : decode b_D_digest 41 = .ok (.iinc 2 1, 3) := by decide +kernel
theorem d_D_digest_44 : decode b_D_digest 44 = .ok (.goto (-37), 3) := by decide +kernel
theorem d_D_digest_47 : decode b_D_digest 47 = .ok (.iload_n 1, 1) := by decide +kernel
theorem d_D_digest_48 : decode b_D_digest 48 = .ok (.ireturn, 1) := by decide +kernel
theorem d_D_forgetLastStep_0 : decode b_D_forgetLastStep 0 = .ok (.aload_n 0, 1) := by decide +kernel
theorem d_D_forgetLastStep_1 : decode b_D_forgetLastStep 1 = .ok (.invokevirtual 51, 3) := by decide +kernel
theorem d_D_forgetLastStep_4 : decode b_D_forgetLastStep 4 = .ok (.aload_n 0, 1) := by decide +kernel
theorem d_D_forgetLastStep_5 : decode b_D_forgetLastStep 5 = .ok (.iconst 0, 1) := by decide +kernel
theorem d_D_forgetLastStep_6 : decode b_D_forgetLastStep 6 = .ok (.putfield 48, 3) := by decide +kernel
theorem d_D_forgetLastStep_9 : decode b_D_forgetLastStep 9 = .ok (.aload_n 0, 1) := by decide +kernel
theorem d_D_forgetLastStep_10 : decode b_D_forgetLastStep 10 = .ok (.iconst 0, 1) := by decide +kernel
theorem d_D_forgetLastStep_11 : decode b_D_forgetLastStep 11 = .ok (.putfield 54, 3) := by decide +kernel
theorem d_D_forgetLastStep_14 : decode b_D_forgetLastStep 14 = .ok (.return_, 1) := by decide +kernel
theorem d_D_blameLater_0 : decode b_D_blameLater 0 = .ok (.aload_n 0, 1) := by decide +kernel
theorem d_D_blameLater_1 : decode b_D_blameLater 1 = .ok (.iconst 1, 1) := by decide +kernel
theorem d_D_blameLater_2 : decode b_D_blameLater 2 = .ok (.putfield 48, 3) := by decide +kernel
theorem d_D_blameLater_5 : decode b_D_blameLater 5 = .ok (.aload_n 0, 1) := by decide +kernel
theorem d_D_blameLater_6 : decode b_D_blameLater 6 = .ok (.dup, 1) := by decide +kernel
theorem d_D_blameLater_7 : decode b_D_blameLater 7 = .ok (.getfield 42, 3) := by decide +kernel
theorem d_D_blameLater_10 : decode b_D_blameLater 10 = .ok (.iconst 1, 1) := by decide +kernel
theorem d_D_blameLater_11 : decode b_D_blameLater 11 = .ok (.iadd, 1) := by decide +kernel
theorem d_D_blameLater_12 : decode b_D_blameLater 12 = .ok (.putfield 42, 3) := by decide +kernel
theorem d_D_blameLater_15 : decode b_D_blameLater 15 = .ok (.return_, 1) := by decide +kernel
theorem d_D_takeBlame_0 : decode b_D_takeBlame 0 = .ok (.aload_n 0, 1) := by decide +kernel
theorem d_D_takeBlame_1 : decode b_D_takeBlame 1 = .ok (.dup, 1) := by decide +kernel
theorem d_D_takeBlame_2 : decode b_D_takeBlame 2 = .ok (.getfield 29, 3) := by decide +kernel
theorem d_D_takeBlame_5 : decode b_D_takeBlame 5 = .ok (.bipush 20, 2) := by decide +kernel
theorem d_D_takeBlame_7 : decode b_D_takeBlame 7 = .ok (.iadd, 1) := by decide +kernel
theorem d_D_takeBlame_8 : decode b_D_takeBlame 8 = .ok (.putfield 29, 3) := by decide +kernel
theorem d_D_takeBlame_11 : decode b_D_takeBlame 11 = .ok (.aload_n 0, 1) := by decide +kernel
theorem d_D_takeBlame_12 : decode b_D_takeBlame 12 = .ok (.aload_n 0, 1) := by decide +kernel
theorem d_D_takeBlame_13 : decode b_D_takeBlame 13 = .ok (.getfield 29, 3) := by decide +kernel
theorem d_D_takeBlame_16 : decode b_D_takeBlame 16 = .ok (.bipush 50, 2) := by decide +kernel
theorem d_D_takeBlame_18 : decode b_D_takeBlame 18 = .ok (.if_icmp .lt 7, 3) := by decide +kernel
theorem d_D_takeBlame_21 : decode b_D_takeBlame 21 = .ok (.iconst 2, 1) := by decide +kernel
theorem d_D_takeBlame_22 : decode b_D_takeBlame 22 = .ok (.goto 4, 3) := by decide +kernel
theorem d_D_takeBlame_25 : decode b_D_takeBlame 25 = .ok (.iconst 1, 1) := by decide +kernel
theorem d_D_takeBlame_26 : decode b_D_takeBlame 26 = .ok (.putfield 22, 3) := by decide +kernel
theorem d_D_takeBlame_29 : decode b_D_takeBlame 29 = .ok (.aload_n 0, 1) := by decide +kernel
theorem d_D_takeBlame_30 : decode b_D_takeBlame 30 = .ok (.iconst 0, 1) := by decide +kernel
theorem d_D_takeBlame_31 : decode b_D_takeBlame 31 = .ok (.putfield 26, 3) := by decide +kernel
theorem d_D_takeBlame_34 : decode b_D_takeBlame 34 = .ok (.return_, 1) := by decide +kernel
theorem d_D_makeBlank_0 : decode b_D_makeBlank 0 = .ok (.aload_n 0, 1) := by decide +kernel
theorem d_D_makeBlank_1 : decode b_D_makeBlank 1 = .ok (.invokevirtual 15, 3) := by decide +kernel
theorem d_D_makeBlank_4 : decode b_D_makeBlank 4 = .ok (.iconst 0, 1) := by decide +kernel
theorem d_D_makeBlank_5 : decode b_D_makeBlank 5 = .ok (.istore_n 2, 1) := by decide +kernel
theorem d_D_makeBlank_6 : decode b_D_makeBlank 6 = .ok (.iload_n 2, 1) := by decide +kernel
theorem d_D_makeBlank_7 : decode b_D_makeBlank 7 = .ok (.bipush 32, 2) := by decide +kernel
theorem d_D_makeBlank_9 : decode b_D_makeBlank 9 = .ok (.if_icmp .ge 15, 3) := by decide +kernel
theorem d_D_makeBlank_12 : decode b_D_makeBlank 12 = .ok (.aload_n 0, 1) := by decide +kernel
theorem d_D_makeBlank_13 : decode b_D_makeBlank 13 = .ok (.iload_n 2, 1) := by decide +kernel
theorem d_D_makeBlank_14 : decode b_D_makeBlank 14 = .ok (.iconst 0, 1) := by decide +kernel
theorem d_D_makeBlank_15 : decode b_D_makeBlank 15 = .ok (.invokevirtual 18, 3) := by decide +kernel
theorem d_D_makeBlank_18 : decode b_D_makeBlank 18 = .ok (.iinc 2 1, 3) := by decide +kernel
theorem d_D_makeBlank_21 : decode b_D_makeBlank 21 = .ok (.goto (-15), 3) := by decide +kernel
theorem d_D_makeBlank_24 : decode b_D_makeBlank 24 = .ok (.aload_n 0, 1) := by decide +kernel
theorem d_D_makeBlank_25 : decode b_D_makeBlank 25 = .ok (.iload_n 1, 1) := by decide +kernel
theorem d_D_makeBlank_26 : decode b_D_makeBlank 26 = .ok (.putfield 22, 3) := by decide +kernel
theorem d_D_makeBlank_29 : decode b_D_makeBlank 29 = .ok (.aload_n 0, 1) := by decide +kernel
theorem d_D_makeBlank_30 : decode b_D_makeBlank 30 = .ok (.iconst 0, 1) := by decide +kernel
theorem d_D_makeBlank_31 : decode b_D_makeBlank 31 = .ok (.putfield 26, 3) := by decide +kernel
theorem d_D_makeBlank_34 : decode b_D_makeBlank 34 = .ok (.aload_n 0, 1) := by decide +kernel
theorem d_D_makeBlank_35 : decode b_D_makeBlank 35 = .ok (.iconst 0, 1) := by decide +kernel
theorem d_D_makeBlank_36 : decode b_D_makeBlank 36 = .ok (.putfield 29, 3) := by decide +kernel
theorem d_D_makeBlank_39 : decode b_D_makeBlank 39 = .ok (.aload_n 0, 1) := by decide +kernel
theorem d_D_makeBlank_40 : decode b_D_makeBlank 40 = .ok (.iconst 0, 1) := by decide +kernel
theorem d_D_makeBlank_41 : decode b_D_makeBlank 41 = .ok (.putfield 32, 3) := by decide +kernel
theorem d_D_makeBlank_44 : decode b_D_makeBlank 44 = .ok (.aload_n 0, 1) := by decide +kernel
theorem d_D_makeBlank_45 : decode b_D_makeBlank 45 = .ok (.iconst 0, 1) := by decide +kernel
theorem d_D_makeBlank_46 : decode b_D_makeBlank 46 = .ok (.putfield 36, 3) := by decide +kernel
theorem d_D_makeBlank_49 : decode b_D_makeBlank 49 = .ok (.aload_n 0, 1) := by decide +kernel
theorem d_D_makeBlank_50 : decode b_D_makeBlank 50 = .ok (.iconst 0, 1) := by decide +kernel
theorem d_D_makeBlank_51 : decode b_D_makeBlank 51 = .ok (.putfield 39, 3) := by decide +kernel
theorem d_D_makeBlank_54 : decode b_D_makeBlank 54 = .ok (.aload_n 0, 1) := by decide +kernel
theorem d_D_makeBlank_55 : decode b_D_makeBlank 55 = .ok (.iconst 0, 1) := by decide +kernel
theorem d_D_makeBlank_56 : decode b_D_makeBlank 56 = .ok (.putfield 42, 3) := by decide +kernel
theorem d_D_makeBlank_59 : decode b_D_makeBlank 59 = .ok (.aload_n 0, 1) := by decide +kernel
theorem d_D_makeBlank_60 : decode b_D_makeBlank 60 = .ok (.invokevirtual 45, 3) := by decide +kernel
theorem d_D_makeBlank_63 : decode b_D_makeBlank 63 = .ok (.return_, 1) := by decide +kernel
