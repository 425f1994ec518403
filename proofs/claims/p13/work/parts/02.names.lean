/-! names, fields, types; decode rows: written by wip/gen/names.py out of claim/JAVAP.txt and claim/Statement.lean -/
def F_T : u_T := fun k => match k with
  | 0 => ("VotedTriple", "instructions", "LVotedTriple$Program;", true)
  | 1 => ("VotedTriple", "modules", "[LVotedTriple$VotedModule;", true)
  | 2 => ("VotedTriple", "perfectOne", "LVotedTriple$PerfectOne;", true)
  | 3 => ("VotedTriple", "wordsIn", "LVotedTriple$WordsIn;", true)
  | 4 => ("VotedTriple", "wordsOut", "LVotedTriple$WordsOut;", true)
  | 5 => ("VotedTriple", "started", "Z", false)
  | 6 => ("VotedTriple", "safe", "Z", false)
  | 7 => ("VotedTriple", "singleAllowed", "Z", false)
  | 8 => ("VotedTriple", "steps", "I", false)
  | 9 => ("VotedTriple", "stepsNotAlike", "I", false)
  | _ => ("VotedTriple", "wordsTaken", "I", false)
def ft_T : Nat → FieldType := fun k => match k with
  | 0 => (.object "VotedTriple$Program")
  | 1 => (.array (.object "VotedTriple$VotedModule"))
  | 2 => (.object "VotedTriple$PerfectOne")
  | 3 => (.object "VotedTriple$WordsIn")
  | 4 => (.object "VotedTriple$WordsOut")
  | 5 => .boolean
  | 6 => .boolean
  | 7 => .boolean
  | 8 => .int
  | 9 => .int
  | _ => .int
theorem nm_T : ∀ a, a < 11 → ∀ b, b < 11 → a ≠ b → (F_T a).2.1 ≠ (F_T b).2.1 := by decide +kernel
theorem tyok_T : ∀ k, k < 11 → parseFieldDescriptor (F_T k).2.2.1 = some (ft_T k) := by decide +kernel
theorem df_T : ∀ j, j < 11 → defaultValue (ft_T j) = vp_V [.null, .null, .null, .null, .null, .int 0, .int 0, .int 0, .int 0, .int 0, .int 0] j := fun j hj => match j, hj with
  | 0, _ => rfl
  | 1, _ => rfl
  | 2, _ => rfl
  | 3, _ => rfl
  | 4, _ => rfl
  | 5, _ => rfl
  | 6, _ => rfl
  | 7, _ => rfl
  | 8, _ => rfl
  | 9, _ => rfl
  | 10, _ => rfl
  | x + 11, h => absurd h (by omega)
def F_P : u_T := fun k => match k with
  | 0 => ("VotedTriple$Program", "words", "[I", true)
  | _ => ("VotedTriple$Program", "count", "I", false)
def ft_P : Nat → FieldType := fun k => match k with
  | 0 => (.array .int)
  | _ => .int
theorem nm_P : ∀ a, a < 2 → ∀ b, b < 2 → a ≠ b → (F_P a).2.1 ≠ (F_P b).2.1 := by decide +kernel
theorem tyok_P : ∀ k, k < 2 → parseFieldDescriptor (F_P k).2.2.1 = some (ft_P k) := by decide +kernel
theorem df_P : ∀ j, j < 2 → defaultValue (ft_P j) = vp_V [.null, .int 0] j := fun j hj => match j, hj with
  | 0, _ => rfl
  | 1, _ => rfl
  | x + 2, h => absurd h (by omega)
def F_D : u_T := fun k => match k with
  | 0 => ("VotedTriple$Processor", "registers", "[I", true)
  | 1 => ("VotedTriple$Processor", "counter", "I", false)
  | 2 => ("VotedTriple$Processor", "wish", "I", false)
  | 3 => ("VotedTriple$Processor", "wishedWord", "I", false)
  | 4 => ("VotedTriple$Processor", "inRegister", "I", false)
  | 5 => ("VotedTriple$Processor", "storedAt", "I", false)
  | 6 => ("VotedTriple$Processor", "storedWord", "I", false)
  | 7 => ("VotedTriple$VotedModule", "codes", "[I", true)
  | 8 => ("VotedTriple$VotedModule", "status", "I", false)
  | 9 => ("VotedTriple$VotedModule", "mark", "I", false)
  | 10 => ("VotedTriple$VotedModule", "blame", "I", false)
  | 11 => ("VotedTriple$VotedModule", "frozen", "Z", false)
  | 12 => ("VotedTriple$VotedModule", "toSkip", "Z", false)
  | 13 => ("VotedTriple$VotedModule", "putRight", "I", false)
  | 14 => ("VotedTriple$VotedModule", "timesNamed", "I", false)
  | 15 => ("VotedTriple$VotedModule", "named", "Z", false)
  | 16 => ("VotedTriple$VotedModule", "readSpoilt", "Z", false)
  | 17 => ("VotedTriple$VotedModule", "scrubFoundSpoilt", "Z", false)
  | _ => ("VotedTriple$VotedModule", "ballot", "I", false)
def ft_D : Nat → FieldType := fun k => match k with
  | 0 => (.array .int)
  | 1 => .int
  | 2 => .int
  | 3 => .int
  | 4 => .int
  | 5 => .int
  | 6 => .int
  | 7 => (.array .int)
  | 8 => .int
  | 9 => .int
  | 10 => .int
  | 11 => .boolean
  | 12 => .boolean
  | 13 => .int
  | 14 => .int
  | 15 => .boolean
  | 16 => .boolean
  | 17 => .boolean
  | _ => .int
theorem nm_D : ∀ a, a < 19 → ∀ b, b < 19 → a ≠ b → (F_D a).2.1 ≠ (F_D b).2.1 := by decide +kernel
theorem tyok_D : ∀ k, k < 19 → parseFieldDescriptor (F_D k).2.2.1 = some (ft_D k) := by decide +kernel
theorem df_D : ∀ j, j < 19 → defaultValue (ft_D j) = vp_V [.null, .int 0, .int 0, .int 0, .int 0, .int 0, .int 0, .null, .int 0, .int 0, .int 0, .int 0, .int 0, .int 0, .int 0, .int 0, .int 0, .int 0, .int 0] j := fun j hj => match j, hj with
  | 0, _ => rfl
  | 1, _ => rfl
  | 2, _ => rfl
  | 3, _ => rfl
  | 4, _ => rfl
  | 5, _ => rfl
  | 6, _ => rfl
  | 7, _ => rfl
  | 8, _ => rfl
  | 9, _ => rfl
  | 10, _ => rfl
  | 11, _ => rfl
  | 12, _ => rfl
  | 13, _ => rfl
  | 14, _ => rfl
  | 15, _ => rfl
  | 16, _ => rfl
  | 17, _ => rfl
  | 18, _ => rfl
  | x + 19, h => absurd h (by omega)
def F_E : u_T := fun k => match k with
  | 0 => ("VotedTriple$Processor", "registers", "[I", true)
  | 1 => ("VotedTriple$Processor", "counter", "I", false)
  | 2 => ("VotedTriple$Processor", "wish", "I", false)
  | 3 => ("VotedTriple$Processor", "wishedWord", "I", false)
  | 4 => ("VotedTriple$Processor", "inRegister", "I", false)
  | 5 => ("VotedTriple$Processor", "storedAt", "I", false)
  | 6 => ("VotedTriple$Processor", "storedWord", "I", false)
  | 7 => ("VotedTriple$PerfectOne", "wordsOut", "LVotedTriple$WordsOut;", true)
  | 8 => ("VotedTriple$PerfectOne", "words", "[I", true)
  | _ => ("VotedTriple$PerfectOne", "wordsTaken", "I", false)
def ft_E : Nat → FieldType := fun k => match k with
  | 0 => (.array .int)
  | 1 => .int
  | 2 => .int
  | 3 => .int
  | 4 => .int
  | 5 => .int
  | 6 => .int
  | 7 => (.object "VotedTriple$WordsOut")
  | 8 => (.array .int)
  | _ => .int
theorem nm_E : ∀ a, a < 10 → ∀ b, b < 10 → a ≠ b → (F_E a).2.1 ≠ (F_E b).2.1 := by decide +kernel
theorem tyok_E : ∀ k, k < 10 → parseFieldDescriptor (F_E k).2.2.1 = some (ft_E k) := by decide +kernel
theorem df_E : ∀ j, j < 10 → defaultValue (ft_E j) = vp_V [.null, .int 0, .int 0, .int 0, .int 0, .int 0, .int 0, .null, .null, .int 0] j := fun j hj => match j, hj with
  | 0, _ => rfl
  | 1, _ => rfl
  | 2, _ => rfl
  | 3, _ => rfl
  | 4, _ => rfl
  | 5, _ => rfl
  | 6, _ => rfl
  | 7, _ => rfl
  | 8, _ => rfl
  | 9, _ => rfl
  | x + 10, h => absurd h (by omega)
def F_N : u_T := fun k => match k with
  | 0 => ("VotedTriple$WordsIn", "words", "[I", true)
  | _ => ("VotedTriple$WordsIn", "count", "I", false)
def ft_N : Nat → FieldType := fun k => match k with
  | 0 => (.array .int)
  | _ => .int
theorem nm_N : ∀ a, a < 2 → ∀ b, b < 2 → a ≠ b → (F_N a).2.1 ≠ (F_N b).2.1 := by decide +kernel
theorem tyok_N : ∀ k, k < 2 → parseFieldDescriptor (F_N k).2.2.1 = some (ft_N k) := by decide +kernel
theorem df_N : ∀ j, j < 2 → defaultValue (ft_N j) = vp_V [.null, .int 0] j := fun j hj => match j, hj with
  | 0, _ => rfl
  | 1, _ => rfl
  | x + 2, h => absurd h (by omega)
def F_O : u_T := fun k => match k with
  | 0 => ("VotedTriple$WordsOut", "kept", "[I", true)
  | _ => ("VotedTriple$WordsOut", "count", "I", false)
def ft_O : Nat → FieldType := fun k => match k with
  | 0 => (.array .int)
  | _ => .int
theorem nm_O : ∀ a, a < 2 → ∀ b, b < 2 → a ≠ b → (F_O a).2.1 ≠ (F_O b).2.1 := by decide +kernel
theorem tyok_O : ∀ k, k < 2 → parseFieldDescriptor (F_O k).2.2.1 = some (ft_O k) := by decide +kernel
theorem df_O : ∀ j, j < 2 → defaultValue (ft_O j) = vp_V [.null, .int 0] j := fun j hj => match j, hj with
  | 0, _ => rfl
  | 1, _ => rfl
  | x + 2, h => absurd h (by omega)
def F_M : u_T := fun k => match k with
  | 0 => ("VotedTripleModel", "thrown", "I", false)
  | 1 => ("VotedTripleModel", "size", "I", false)
  | 2 => ("VotedTripleModel", "code", "[I", true)
  | 3 => ("VotedTripleModel", "started", "Z", false)
  | 4 => ("VotedTripleModel", "safe", "Z", false)
  | 5 => ("VotedTripleModel", "single", "Z", false)
  | 6 => ("VotedTripleModel", "steps", "I", false)
  | 7 => ("VotedTripleModel", "unlike", "I", false)
  | 8 => ("VotedTripleModel", "register", "[I", true)
  | 9 => ("VotedTripleModel", "cell", "[I", true)
  | 10 => ("VotedTripleModel", "counter", "[I", true)
  | 11 => ("VotedTripleModel", "state", "[I", true)
  | 12 => ("VotedTripleModel", "mark", "[I", true)
  | 13 => ("VotedTripleModel", "blame", "[I", true)
  | 14 => ("VotedTripleModel", "frozen", "[Z", true)
  | 15 => ("VotedTripleModel", "skips", "[Z", true)
  | 16 => ("VotedTripleModel", "mended", "[I", true)
  | 17 => ("VotedTripleModel", "namedTimes", "[I", true)
  | 18 => ("VotedTripleModel", "wish", "[I", true)
  | 19 => ("VotedTripleModel", "spoilt", "[Z", true)
  | 20 => ("VotedTripleModel", "inTo", "[I", true)
  | 21 => ("VotedTripleModel", "storeAt", "[I", true)
  | 22 => ("VotedTripleModel", "storeWord", "[I", true)
  | 23 => ("VotedTripleModel", "named", "[Z", true)
  | 24 => ("VotedTripleModel", "readSpoilt", "Z", false)
  | 25 => ("VotedTripleModel", "jump", "I", false)
  | 26 => ("VotedTripleModel", "came", "I", false)
  | 27 => ("VotedTripleModel", "used", "I", false)
  | 28 => ("VotedTripleModel", "inputs", "[I", true)
  | 29 => ("VotedTripleModel", "went", "I", false)
  | 30 => ("VotedTripleModel", "outputs", "[I", true)
  | 31 => ("VotedTripleModel", "ownRegister", "[I", true)
  | 32 => ("VotedTripleModel", "ownWord", "[I", true)
  | 33 => ("VotedTripleModel", "ownCounter", "I", false)
  | 34 => ("VotedTripleModel", "ownUsed", "I", false)
  | 35 => ("VotedTripleModel", "ownWent", "I", false)
  | _ => ("VotedTripleModel", "ownOutputs", "[I", true)
def ft_M : Nat → FieldType := fun k => match k with
  | 0 => .int
  | 1 => .int
  | 2 => (.array .int)
  | 3 => .boolean
  | 4 => .boolean
  | 5 => .boolean
  | 6 => .int
  | 7 => .int
  | 8 => (.array .int)
  | 9 => (.array .int)
  | 10 => (.array .int)
  | 11 => (.array .int)
  | 12 => (.array .int)
  | 13 => (.array .int)
  | 14 => (.array .boolean)
  | 15 => (.array .boolean)
  | 16 => (.array .int)
  | 17 => (.array .int)
  | 18 => (.array .int)
  | 19 => (.array .boolean)
  | 20 => (.array .int)
  | 21 => (.array .int)
  | 22 => (.array .int)
  | 23 => (.array .boolean)
  | 24 => .boolean
  | 25 => .int
  | 26 => .int
  | 27 => .int
  | 28 => (.array .int)
  | 29 => .int
  | 30 => (.array .int)
  | 31 => (.array .int)
  | 32 => (.array .int)
  | 33 => .int
  | 34 => .int
  | 35 => .int
  | _ => (.array .int)
theorem nm_M : ∀ a, a < 37 → ∀ b, b < 37 → a ≠ b → (F_M a).2.1 ≠ (F_M b).2.1 := by decide +kernel
theorem tyok_M : ∀ k, k < 37 → parseFieldDescriptor (F_M k).2.2.1 = some (ft_M k) := by decide +kernel
theorem df_M : ∀ j, j < 37 → defaultValue (ft_M j) = vp_V [.int 0, .int 0, .null, .int 0, .int 0, .int 0, .int 0, .int 0, .null, .null, .null, .null, .null, .null, .null, .null, .null, .null, .null, .null, .null, .null, .null, .null, .int 0, .int 0, .int 0, .int 0, .null, .int 0, .null, .null, .null, .int 0, .int 0, .int 0, .null] j := fun j hj => match j, hj with
  | 0, _ => rfl
  | 1, _ => rfl
  | 2, _ => rfl
  | 3, _ => rfl
  | 4, _ => rfl
  | 5, _ => rfl
  | 6, _ => rfl
  | 7, _ => rfl
  | 8, _ => rfl
  | 9, _ => rfl
  | 10, _ => rfl
  | 11, _ => rfl
  | 12, _ => rfl
  | 13, _ => rfl
  | 14, _ => rfl
  | 15, _ => rfl
  | 16, _ => rfl
  | 17, _ => rfl
  | 18, _ => rfl
  | 19, _ => rfl
  | 20, _ => rfl
  | 21, _ => rfl
  | 22, _ => rfl
  | 23, _ => rfl
  | 24, _ => rfl
  | 25, _ => rfl
  | 26, _ => rfl
  | 27, _ => rfl
  | 28, _ => rfl
  | 29, _ => rfl
  | 30, _ => rfl
  | 31, _ => rfl
  | 32, _ => rfl
  | 33, _ => rfl
  | 34, _ => rfl
  | 35, _ => rfl
  | 36, _ => rfl
  | x + 37, h => absurd h (by omega)
abbrev classes : List vw_C := [("VotedTriple", F_T, 11), ("VotedTriple$Program", F_P, 2), ("VotedTriple$VotedModule", F_D, 19), ("VotedTriple$PerfectOne", F_E, 10), ("VotedTriple$WordsIn", F_N, 2), ("VotedTriple$WordsOut", F_O, 2), ("VotedTripleModel", F_M, 37)]
def y_T_init : MethodName := ⟨"VotedTriple", "<init>", "()V"⟩
abbrev b_T_init : ByteArray := prog_1_method_1_code
def y_T_program : MethodName := ⟨"VotedTriple", "program", "(II)Z"⟩
abbrev b_T_program : ByteArray := prog_1_method_2_code
def y_T_start : MethodName := ⟨"VotedTriple", "start", "()Z"⟩
abbrev b_T_start : ByteArray := prog_1_method_3_code
def y_T_step : MethodName := ⟨"VotedTriple", "step", "(I)I"⟩
abbrev b_T_step : ByteArray := prog_1_method_4_code
def y_T_input : MethodName := ⟨"VotedTriple", "input", "(I)Z"⟩
abbrev b_T_input : ByteArray := prog_1_method_5_code
def y_T_output : MethodName := ⟨"VotedTriple", "output", "(I)I"⟩
abbrev b_T_output : ByteArray := prog_1_method_6_code
def y_T_perfect : MethodName := ⟨"VotedTriple", "perfect", "(I)I"⟩
abbrev b_T_perfect : ByteArray := prog_1_method_7_code
def y_T_flip : MethodName := ⟨"VotedTriple", "flip", "(IIII)V"⟩
abbrev b_T_flip : ByteArray := prog_1_method_8_code
def y_T_freeze : MethodName := ⟨"VotedTriple", "freeze", "(IZ)Z"⟩
abbrev b_T_freeze : ByteArray := prog_1_method_9_code
def y_T_skip : MethodName := ⟨"VotedTriple", "skip", "(I)Z"⟩
abbrev b_T_skip : ByteArray := prog_1_method_10_code
def y_T_swap : MethodName := ⟨"VotedTriple", "swap", "(I)Z"⟩
abbrev b_T_swap : ByteArray := prog_1_method_11_code
def y_T_allow : MethodName := ⟨"VotedTriple", "allow", "(Z)V"⟩
abbrev b_T_allow : ByteArray := prog_1_method_12_code
def y_T_module : MethodName := ⟨"VotedTriple", "module", "(II)I"⟩
abbrev b_T_module : ByteArray := prog_1_method_13_code
def y_T_register : MethodName := ⟨"VotedTriple", "register", "(II)I"⟩
abbrev b_T_register : ByteArray := prog_1_method_14_code
def y_T_code : MethodName := ⟨"VotedTriple", "code", "(II)I"⟩
abbrev b_T_code : ByteArray := prog_1_method_15_code
def y_T_state : MethodName := ⟨"VotedTriple", "state", "(I)I"⟩
abbrev b_T_state : ByteArray := prog_1_method_16_code
def y_T_currentMode : MethodName := ⟨"VotedTriple", "currentMode", "()I"⟩
abbrev b_T_currentMode : ByteArray := prog_1_method_17_code
def y_T_hasModule : MethodName := ⟨"VotedTriple", "hasModule", "(I)Z"⟩
abbrev b_T_hasModule : ByteArray := prog_1_method_18_code
def y_T_hasBit : MethodName := ⟨"VotedTriple", "hasBit", "(III)Z"⟩
abbrev b_T_hasBit : ByteArray := prog_1_method_19_code
def y_T_isBelow : MethodName := ⟨"VotedTriple", "isBelow", "(II)Z"⟩
abbrev b_T_isBelow : ByteArray := prog_1_method_20_code
def y_T_canGoOnWith : MethodName := ⟨"VotedTriple", "canGoOnWith", "(I)Z"⟩
abbrev b_T_canGoOnWith : ByteArray := prog_1_method_21_code
def y_T_countInStep : MethodName := ⟨"VotedTriple", "countInStep", "()I"⟩
abbrev b_T_countInStep : ByteArray := prog_1_method_22_code
def y_T_doOneStep : MethodName := ⟨"VotedTriple", "doOneStep", "()V"⟩
abbrev b_T_doOneStep : ByteArray := prog_1_method_23_code
def y_T_doInstructions : MethodName := ⟨"VotedTriple", "doInstructions", "()V"⟩
abbrev b_T_doInstructions : ByteArray := prog_1_method_24_code
def y_T_vote : MethodName := ⟨"VotedTriple", "vote", "()I"⟩
abbrev b_T_vote : ByteArray := prog_1_method_25_code
def y_T_oneOfTheAlikePair : MethodName := ⟨"VotedTriple", "oneOfTheAlikePair", "()I"⟩
abbrev b_T_oneOfTheAlikePair : ByteArray := prog_1_method_26_code
def y_T_soundOneOfTwo : MethodName := ⟨"VotedTriple", "soundOneOfTwo", "()I"⟩
abbrev b_T_soundOneOfTwo : ByteArray := prog_1_method_27_code
def y_T_nameAllUnlike : MethodName := ⟨"VotedTriple", "nameAllUnlike", "(I)V"⟩
abbrev b_T_nameAllUnlike : ByteArray := prog_1_method_28_code
def y_T_countBallots : MethodName := ⟨"VotedTriple", "countBallots", "(I)I"⟩
abbrev b_T_countBallots : ByteArray := prog_1_method_29_code
def y_T_countTrusted : MethodName := ⟨"VotedTriple", "countTrusted", "()I"⟩
abbrev b_T_countTrusted : ByteArray := prog_1_method_30_code
def y_T_lowestTrusted : MethodName := ⟨"VotedTriple", "lowestTrusted", "()I"⟩
abbrev b_T_lowestTrusted : ByteArray := prog_1_method_31_code
def y_T_doWhatIsAgreed : MethodName := ⟨"VotedTriple", "doWhatIsAgreed", "(LVotedTriple$VotedModule;)V"⟩
abbrev b_T_doWhatIsAgreed : ByteArray := prog_1_method_32_code
def y_T_takeWord : MethodName := ⟨"VotedTriple", "takeWord", "()I"⟩
abbrev b_T_takeWord : ByteArray := prog_1_method_33_code
def y_T_storeInCopies : MethodName := ⟨"VotedTriple", "storeInCopies", "()V"⟩
abbrev b_T_storeInCopies : ByteArray := prog_1_method_34_code
def y_T_scrub : MethodName := ⟨"VotedTriple", "scrub", "()Z"⟩
abbrev b_T_scrub : ByteArray := prog_1_method_35_code
def y_T_compareDigests : MethodName := ⟨"VotedTriple", "compareDigests", "()Z"⟩
abbrev b_T_compareDigests : ByteArray := prog_1_method_36_code
def y_T_blameNamed : MethodName := ⟨"VotedTriple", "blameNamed", "()Z"⟩
abbrev b_T_blameNamed : ByteArray := prog_1_method_37_code
def y_T_copyOn : MethodName := ⟨"VotedTriple", "copyOn", "()V"⟩
abbrev b_T_copyOn : ByteArray := prog_1_method_38_code
def y_T_forgive : MethodName := ⟨"VotedTriple", "forgive", "()V"⟩
abbrev b_T_forgive : ByteArray := prog_1_method_39_code
def y_M_init : MethodName := ⟨"VotedTripleModel", "<init>", "()V"⟩
abbrev b_M_init : ByteArray := prog_10_method_1_code
def y_M_op : MethodName := ⟨"VotedTripleModel", "op", "(I)I"⟩
abbrev b_M_op : ByteArray := prog_10_method_4_code
def y_M_part : MethodName := ⟨"VotedTripleModel", "part", "(II)I"⟩
abbrev b_M_part : ByteArray := prog_10_method_5_code
def y_M_isRight : MethodName := ⟨"VotedTripleModel", "isRight", "(I)Z"⟩
abbrev b_M_isRight : ByteArray := prog_10_method_6_code
def y_M_program : MethodName := ⟨"VotedTripleModel", "program", "(II)Z"⟩
abbrev b_M_program : ByteArray := prog_10_method_7_code
def y_M_isData : MethodName := ⟨"VotedTripleModel", "isData", "(I)Z"⟩
abbrev b_M_isData : ByteArray := prog_10_method_8_code
def y_M_positions : MethodName := ⟨"VotedTripleModel", "positions", "(I)I"⟩
abbrev b_M_positions : ByteArray := prog_10_method_9_code
def y_M_ones : MethodName := ⟨"VotedTripleModel", "ones", "(I)I"⟩
abbrev b_M_ones : ByteArray := prog_10_method_10_code
def y_M_encode : MethodName := ⟨"VotedTripleModel", "encode", "(I)I"⟩
abbrev b_M_encode : ByteArray := prog_10_method_11_code
def y_M_decode : MethodName := ⟨"VotedTripleModel", "decode", "(I)I"⟩
abbrev b_M_decode : ByteArray := prog_10_method_12_code
def y_M_read : MethodName := ⟨"VotedTripleModel", "read", "(II)I"⟩
abbrev b_M_read : ByteArray := prog_10_method_13_code
def y_M_canStart : MethodName := ⟨"VotedTripleModel", "canStart", "()Z"⟩
abbrev b_M_canStart : ByteArray := prog_10_method_14_code
def y_M_blank : MethodName := ⟨"VotedTripleModel", "blank", "(I)V"⟩
abbrev b_M_blank : ByteArray := prog_10_method_15_code
def y_M_start : MethodName := ⟨"VotedTripleModel", "start", "()Z"⟩
abbrev b_M_start : ByteArray := prog_10_method_16_code
def y_M_result : MethodName := ⟨"VotedTripleModel", "result", "(III)I"⟩
abbrev b_M_result : ByteArray := prog_10_method_17_code
def y_M_perfectStep : MethodName := ⟨"VotedTripleModel", "perfectStep", "()V"⟩
abbrev b_M_perfectStep : ByteArray := prog_10_method_18_code
def y_M_instruction : MethodName := ⟨"VotedTripleModel", "instruction", "(I)V"⟩
abbrev b_M_instruction : ByteArray := prog_10_method_19_code
def y_M_inStep : MethodName := ⟨"VotedTripleModel", "inStep", "()I"⟩
abbrev b_M_inStep : ByteArray := prog_10_method_20_code
def y_M_isLike : MethodName := ⟨"VotedTripleModel", "isLike", "(II)Z"⟩
abbrev b_M_isLike : ByteArray := prog_10_method_21_code
def y_M_vote : MethodName := ⟨"VotedTripleModel", "vote", "()I"⟩
abbrev b_M_vote : ByteArray := prog_10_method_22_code
def y_M_agreed : MethodName := ⟨"VotedTripleModel", "agreed", "(I)V"⟩
abbrev b_M_agreed : ByteArray := prog_10_method_23_code
def y_M_lowest : MethodName := ⟨"VotedTripleModel", "lowest", "(Z)I"⟩
abbrev b_M_lowest : ByteArray := prog_10_method_24_code
def y_M_copyStore : MethodName := ⟨"VotedTripleModel", "copyStore", "()V"⟩
abbrev b_M_copyStore : ByteArray := prog_10_method_25_code
def y_M_scrub : MethodName := ⟨"VotedTripleModel", "scrub", "()Z"⟩
abbrev b_M_scrub : ByteArray := prog_10_method_26_code
def y_M_digest : MethodName := ⟨"VotedTripleModel", "digest", "(I)I"⟩
abbrev b_M_digest : ByteArray := prog_10_method_27_code
def y_M_compareDigests : MethodName := ⟨"VotedTripleModel", "compareDigests", "()Z"⟩
abbrev b_M_compareDigests : ByteArray := prog_10_method_28_code
def y_M_blameAll : MethodName := ⟨"VotedTripleModel", "blameAll", "()Z"⟩
abbrev b_M_blameAll : ByteArray := prog_10_method_29_code
def y_M_copyAll : MethodName := ⟨"VotedTripleModel", "copyAll", "()V"⟩
abbrev b_M_copyAll : ByteArray := prog_10_method_30_code
def y_M_stepOnce : MethodName := ⟨"VotedTripleModel", "stepOnce", "()Z"⟩
abbrev b_M_stepOnce : ByteArray := prog_10_method_31_code
def y_M_step : MethodName := ⟨"VotedTripleModel", "step", "(I)I"⟩
abbrev b_M_step : ByteArray := prog_10_method_32_code
def y_M_input : MethodName := ⟨"VotedTripleModel", "input", "(I)Z"⟩
abbrev b_M_input : ByteArray := prog_10_method_33_code
def y_M_output : MethodName := ⟨"VotedTripleModel", "output", "(I)I"⟩
abbrev b_M_output : ByteArray := prog_10_method_34_code
def y_M_perfect : MethodName := ⟨"VotedTripleModel", "perfect", "(I)I"⟩
abbrev b_M_perfect : ByteArray := prog_10_method_35_code
def y_M_isModule : MethodName := ⟨"VotedTripleModel", "isModule", "(I)Z"⟩
abbrev b_M_isModule : ByteArray := prog_10_method_36_code
def y_M_flip : MethodName := ⟨"VotedTripleModel", "flip", "(IIII)V"⟩
abbrev b_M_flip : ByteArray := prog_10_method_37_code
def y_M_freeze : MethodName := ⟨"VotedTripleModel", "freeze", "(IZ)Z"⟩
abbrev b_M_freeze : ByteArray := prog_10_method_38_code
def y_M_skip : MethodName := ⟨"VotedTripleModel", "skip", "(I)Z"⟩
abbrev b_M_skip : ByteArray := prog_10_method_39_code
def y_M_swap : MethodName := ⟨"VotedTripleModel", "swap", "(I)Z"⟩
abbrev b_M_swap : ByteArray := prog_10_method_40_code
def y_M_allow : MethodName := ⟨"VotedTripleModel", "allow", "(Z)V"⟩
abbrev b_M_allow : ByteArray := prog_10_method_41_code
def y_M_module : MethodName := ⟨"VotedTripleModel", "module", "(II)I"⟩
abbrev b_M_module : ByteArray := prog_10_method_42_code
def y_M_register : MethodName := ⟨"VotedTripleModel", "register", "(II)I"⟩
abbrev b_M_register : ByteArray := prog_10_method_43_code
def y_M_code : MethodName := ⟨"VotedTripleModel", "code", "(II)I"⟩
abbrev b_M_code : ByteArray := prog_10_method_44_code
def y_M_state : MethodName := ⟨"VotedTripleModel", "state", "(I)I"⟩
abbrev b_M_state : ByteArray := prog_10_method_45_code
def y_K_ofWord : MethodName := ⟨"VotedTriple$Code", "ofWord", "(I)I"⟩
abbrev b_K_ofWord : ByteArray := prog_2_method_2_code
def y_K_wordOf : MethodName := ⟨"VotedTriple$Code", "wordOf", "(I)I"⟩
abbrev b_K_wordOf : ByteArray := prog_2_method_3_code
def y_K_exclusiveOr : MethodName := ⟨"VotedTriple$Code", "exclusiveOr", "(I)I"⟩
abbrev b_K_exclusiveOr : ByteArray := prog_2_method_4_code
def y_E_init : MethodName := ⟨"VotedTriple$PerfectOne", "<init>", "()V"⟩
abbrev b_E_init : ByteArray := prog_3_method_1_code
def y_E_makeBlank : MethodName := ⟨"VotedTriple$PerfectOne", "makeBlank", "()V"⟩
abbrev b_E_makeBlank : ByteArray := prog_3_method_2_code
def y_E_doInstruction : MethodName := ⟨"VotedTriple$PerfectOne", "doInstruction", "(LVotedTriple$Program;LVotedTriple$WordsIn;)V"⟩
abbrev b_E_doInstruction : ByteArray := prog_3_method_3_code
def y_E_readWord : MethodName := ⟨"VotedTriple$PerfectOne", "readWord", "(I)I"⟩
abbrev b_E_readWord : ByteArray := prog_3_method_4_code
def y_E_writeWord : MethodName := ⟨"VotedTriple$PerfectOne", "writeWord", "(II)V"⟩
abbrev b_E_writeWord : ByteArray := prog_3_method_5_code
def y_C_init : MethodName := ⟨"VotedTriple$Processor", "<init>", "()V"⟩
abbrev b_C_init : ByteArray := prog_4_method_1_code
def y_C_clearProcessor : MethodName := ⟨"VotedTriple$Processor", "clearProcessor", "()V"⟩
abbrev b_C_clearProcessor : ByteArray := prog_4_method_4_code
def y_C_clearEffects : MethodName := ⟨"VotedTriple$Processor", "clearEffects", "()V"⟩
abbrev b_C_clearEffects : ByteArray := prog_4_method_5_code
def y_C_wishNothing : MethodName := ⟨"VotedTriple$Processor", "wishNothing", "()V"⟩
abbrev b_C_wishNothing : ByteArray := prog_4_method_6_code
def y_C_passOver : MethodName := ⟨"VotedTriple$Processor", "passOver", "(LVotedTriple$Program;)V"⟩
abbrev b_C_passOver : ByteArray := prog_4_method_7_code
def y_C_execute : MethodName := ⟨"VotedTriple$Processor", "execute", "(LVotedTriple$Program;)V"⟩
abbrev b_C_execute : ByteArray := prog_4_method_8_code
def y_C_receive : MethodName := ⟨"VotedTriple$Processor", "receive", "(I)V"⟩
abbrev b_C_receive : ByteArray := prog_4_method_9_code
def y_C_reckon : MethodName := ⟨"VotedTriple$Processor", "reckon", "(III)I"⟩
abbrev b_C_reckon : ByteArray := prog_4_method_10_code
def y_P_init : MethodName := ⟨"VotedTriple$Program", "<init>", "()V"⟩
abbrev b_P_init : ByteArray := prog_5_method_1_code
def y_P_put : MethodName := ⟨"VotedTriple$Program", "put", "(II)Z"⟩
abbrev b_P_put : ByteArray := prog_5_method_2_code
def y_P_canRun : MethodName := ⟨"VotedTriple$Program", "canRun", "()Z"⟩
abbrev b_P_canRun : ByteArray := prog_5_method_3_code
def y_P_instructionAt : MethodName := ⟨"VotedTriple$Program", "instructionAt", "(I)I"⟩
abbrev b_P_instructionAt : ByteArray := prog_5_method_4_code
def y_P_wrap : MethodName := ⟨"VotedTriple$Program", "wrap", "(I)I"⟩
abbrev b_P_wrap : ByteArray := prog_5_method_5_code
def y_P_isInstruction : MethodName := ⟨"VotedTriple$Program", "isInstruction", "(I)Z"⟩
abbrev b_P_isInstruction : ByteArray := prog_5_method_6_code
def y_P_isRegister : MethodName := ⟨"VotedTriple$Program", "isRegister", "(I)Z"⟩
abbrev b_P_isRegister : ByteArray := prog_5_method_7_code
def y_P_opOf : MethodName := ⟨"VotedTriple$Program", "opOf", "(I)I"⟩
abbrev b_P_opOf : ByteArray := prog_5_method_8_code
def y_P_aOf : MethodName := ⟨"VotedTriple$Program", "aOf", "(I)I"⟩
abbrev b_P_aOf : ByteArray := prog_5_method_9_code
def y_P_bOf : MethodName := ⟨"VotedTriple$Program", "bOf", "(I)I"⟩
abbrev b_P_bOf : ByteArray := prog_5_method_10_code
def y_P_cOf : MethodName := ⟨"VotedTriple$Program", "cOf", "(I)I"⟩
abbrev b_P_cOf : ByteArray := prog_5_method_11_code
def y_D_init : MethodName := ⟨"VotedTriple$VotedModule", "<init>", "()V"⟩
abbrev b_D_init : ByteArray := prog_6_method_1_code
def y_D_makeBlank : MethodName := ⟨"VotedTriple$VotedModule", "makeBlank", "(I)V"⟩
abbrev b_D_makeBlank : ByteArray := prog_6_method_2_code
def y_D_isTrusted : MethodName := ⟨"VotedTriple$VotedModule", "isTrusted", "()Z"⟩
abbrev b_D_isTrusted : ByteArray := prog_6_method_3_code
def y_D_shownMark : MethodName := ⟨"VotedTriple$VotedModule", "shownMark", "()I"⟩
abbrev b_D_shownMark : ByteArray := prog_6_method_4_code
def y_D_forgetLastStep : MethodName := ⟨"VotedTriple$VotedModule", "forgetLastStep", "()V"⟩
abbrev b_D_forgetLastStep : ByteArray := prog_6_method_5_code
def y_D_wishAsBallot : MethodName := ⟨"VotedTriple$VotedModule", "wishAsBallot", "()I"⟩
abbrev b_D_wishAsBallot : ByteArray := prog_6_method_6_code
def y_D_digest : MethodName := ⟨"VotedTriple$VotedModule", "digest", "()I"⟩
abbrev b_D_digest : ByteArray := prog_6_method_7_code
def y_D_readWord : MethodName := ⟨"VotedTriple$VotedModule", "readWord", "(I)I"⟩
abbrev b_D_readWord : ByteArray := prog_6_method_8_code
def y_D_writeWord : MethodName := ⟨"VotedTriple$VotedModule", "writeWord", "(II)V"⟩
abbrev b_D_writeWord : ByteArray := prog_6_method_9_code
def y_D_findsSpoilt : MethodName := ⟨"VotedTriple$VotedModule", "findsSpoilt", "(I)Z"⟩
abbrev b_D_findsSpoilt : ByteArray := prog_6_method_10_code
def y_D_blameLater : MethodName := ⟨"VotedTriple$VotedModule", "blameLater", "()V"⟩
abbrev b_D_blameLater : ByteArray := prog_6_method_11_code
def y_D_takeBlame : MethodName := ⟨"VotedTriple$VotedModule", "takeBlame", "()V"⟩
abbrev b_D_takeBlame : ByteArray := prog_6_method_12_code
def y_D_copyNextFrom : MethodName := ⟨"VotedTriple$VotedModule", "copyNextFrom", "(LVotedTriple$VotedModule;)V"⟩
abbrev b_D_copyNextFrom : ByteArray := prog_6_method_13_code
def y_N_init : MethodName := ⟨"VotedTriple$WordsIn", "<init>", "()V"⟩
abbrev b_N_init : ByteArray := prog_7_method_1_code
def y_N_forget : MethodName := ⟨"VotedTriple$WordsIn", "forget", "()V"⟩
abbrev b_N_forget : ByteArray := prog_7_method_2_code
def y_N_add : MethodName := ⟨"VotedTriple$WordsIn", "add", "(I)Z"⟩
abbrev b_N_add : ByteArray := prog_7_method_3_code
def y_N_wordAt : MethodName := ⟨"VotedTriple$WordsIn", "wordAt", "(I)I"⟩
abbrev b_N_wordAt : ByteArray := prog_7_method_4_code
def y_O_init : MethodName := ⟨"VotedTriple$WordsOut", "<init>", "()V"⟩
abbrev b_O_init : ByteArray := prog_8_method_1_code
def y_O_forget : MethodName := ⟨"VotedTriple$WordsOut", "forget", "()V"⟩
abbrev b_O_forget : ByteArray := prog_8_method_2_code
def y_O_add : MethodName := ⟨"VotedTriple$WordsOut", "add", "(I)V"⟩
abbrev b_O_add : ByteArray := prog_8_method_3_code
def y_O_keeps : MethodName := ⟨"VotedTriple$WordsOut", "keeps", "(I)Z"⟩
abbrev b_O_keeps : ByteArray := prog_8_method_4_code
def y_L_step : MethodName := ⟨"VotedTripleLaw", "step", "(LVotedTriple;I[J)I"⟩
abbrev b_L_step : ByteArray := method_3_code
def y_L_output : MethodName := ⟨"VotedTripleLaw", "output", "(LVotedTriple;I[J)I"⟩
abbrev b_L_output : ByteArray := method_4_code
def y_L_perfect : MethodName := ⟨"VotedTripleLaw", "perfect", "(LVotedTriple;I[J)I"⟩
abbrev b_L_perfect : ByteArray := method_5_code
def y_L_flip : MethodName := ⟨"VotedTripleLaw", "flip", "(LVotedTriple;IIII)I"⟩
abbrev b_L_flip : ByteArray := method_6_code
def y_I_bitCount : MethodName := ⟨"java/lang/Integer", "bitCount", "(I)I"⟩
abbrev b_I_bitCount : ByteArray := prog_15_method_49_code
def y_L_law : MethodName := ⟨"VotedTripleLaw", "law", "([I)Z"⟩
abbrev b_L_law : ByteArray := code
theorem d_T_init_0 : decode b_T_init 0 = .ok (.aload_n 0, 1) := by decide +kernel
theorem d_T_init_1 : decode b_T_init 1 = .ok (.invokespecial 1, 3) := by decide +kernel
theorem d_T_init_4 : decode b_T_init 4 = .ok (.aload_n 0, 1) := by decide +kernel
theorem d_T_init_5 : decode b_T_init 5 = .ok (.new 7, 3) := by decide +kernel
theorem d_T_init_8 : decode b_T_init 8 = .ok (.dup, 1) := by decide +kernel
theorem d_T_init_9 : decode b_T_init 9 = .ok (.invokespecial 9, 3) := by decide +kernel
theorem d_T_init_12 : decode b_T_init 12 = .ok (.putfield 10, 3) := by decide +kernel
theorem d_T_init_15 : decode b_T_init 15 = .ok (.aload_n 0, 1) := by decide +kernel
theorem d_T_init_16 : decode b_T_init 16 = .ok (.iconst 3, 1) := by decide +kernel
theorem d_T_init_17 : decode b_T_init 17 = .ok (.anewarray 16, 3) := by decide +kernel
theorem d_T_init_20 : decode b_T_init 20 = .ok (.putfield 18, 3) := by decide +kernel
theorem d_T_init_23 : decode b_T_init 23 = .ok (.aload_n 0, 1) := by decide +kernel
theorem d_T_init_24 : decode b_T_init 24 = .ok (.new 22, 3) := by decide +kernel
theorem d_T_init_27 : decode b_T_init 27 = .ok (.dup, 1) := by decide +kernel
theorem d_T_init_28 : decode b_T_init 28 = .ok (.invokespecial 24, 3) := by decide +kernel
theorem d_T_init_31 : decode b_T_init 31 = .ok (.putfield 25, 3) := by decide +kernel
theorem d_T_init_34 : decode b_T_init 34 = .ok (.aload_n 0, 1) := by decide +kernel
theorem d_T_init_35 : decode b_T_init 35 = .ok (.new 29, 3) := by decide +kernel
theorem d_T_init_38 : decode b_T_init 38 = .ok (.dup, 1) := by decide +kernel
theorem d_T_init_39 : decode b_T_init 39 = .ok (.invokespecial 31, 3) := by decide +kernel
theorem d_T_init_42 : decode b_T_init 42 = .ok (.putfield 32, 3) := by decide +kernel
theorem d_T_init_45 : decode b_T_init 45 = .ok (.aload_n 0, 1) := by decide +kernel
theorem d_T_init_46 : decode b_T_init 46 = .ok (.new 36, 3) := by decide +kernel
theorem d_T_init_49 : decode b_T_init 49 = .ok (.dup, 1) := by decide +kernel
theorem d_T_init_50 : decode b_T_init 50 = .ok (.invokespecial 38, 3) := by decide +kernel
theorem d_T_init_53 : decode b_T_init 53 = .ok (.putfield 39, 3) := by decide +kernel
theorem d_T_init_56 : decode b_T_init 56 = .ok (.iconst 0, 1) := by decide +kernel
theorem d_T_init_57 : decode b_T_init 57 = .ok (.istore_n 1, 1) := by decide +kernel
theorem d_T_init_58 : decode b_T_init 58 = .ok (.iload_n 1, 1) := by decide +kernel
theorem d_T_init_59 : decode b_T_init 59 = .ok (.iconst 3, 1) := by decide +kernel
theorem d_T_init_60 : decode b_T_init 60 = .ok (.if_icmp .ge 22, 3) := by decide +kernel
theorem d_T_init_63 : decode b_T_init 63 = .ok (.aload_n 0, 1) := by decide +kernel
theorem d_T_init_64 : decode b_T_init 64 = .ok (.getfield 18, 3) := by decide +kernel
theorem d_T_init_67 : decode b_T_init 67 = .ok (.iload_n 1, 1) := by decide +kernel
theorem d_T_init_68 : decode b_T_init 68 = .ok (.new 16, 3) := by decide +kernel
theorem d_T_init_71 : decode b_T_init 71 = .ok (.dup, 1) := by decide +kernel
theorem d_T_init_72 : decode b_T_init 72 = .ok (.invokespecial 43, 3) := by decide +kernel
theorem d_T_init_75 : decode b_T_init 75 = .ok (.aastore, 1) := by decide +kernel
theorem d_T_init_76 : decode b_T_init 76 = .ok (.iinc 1 1, 3) := by decide +kernel
theorem d_T_init_79 : decode b_T_init 79 = .ok (.goto (-21), 3) := by decide +kernel
theorem d_T_init_82 : decode b_T_init 82 = .ok (.return_, 1) := by decide +kernel
theorem d_T_program_0 : decode b_T_program 0 = .ok (.aload_n 0, 1) := by decide +kernel
theorem d_T_program_1 : decode b_T_program 1 = .ok (.getfield 44, 3) := by decide +kernel
theorem d_T_program_4 : decode b_T_program 4 = .ok (.ifCond .ne 19, 3) := by decide +kernel
theorem d_T_program_7 : decode b_T_program 7 = .ok (.aload_n 0, 1) := by decide +kernel
theorem d_T_program_8 : decode b_T_program 8 = .ok (.getfield 10, 3) := by decide +kernel
theorem d_T_program_11 : decode b_T_program 11 = .ok (.iload_n 1, 1) := by decide +kernel
theorem d_T_program_12 : decode b_T_program 12 = .ok (.iload_n 2, 1) := by decide +kernel
theorem d_T_program_13 : decode b_T_program 13 = .ok (.invokevirtual 48, 3) := by decide +kernel
theorem d_T_program_16 : decode b_T_program 16 = .ok (.ifCond .eq 7, 3) := by decide +kernel
theorem d_T_program_19 : decode b_T_program 19 = .ok (.iconst 1, 1) := by decide +kernel
theorem d_T_program_20 : decode b_T_program 20 = .ok (.goto 4, 3) := by decide +kernel
theorem d_T_program_23 : decode b_T_program 23 = .ok (.iconst 0, 1) := by decide +kernel
theorem d_T_program_24 : decode b_T_program 24 = .ok (.ireturn, 1) := by decide +kernel
theorem d_T_start_0 : decode b_T_start 0 = .ok (.aload_n 0, 1) := by decide +kernel
theorem d_T_start_1 : decode b_T_start 1 = .ok (.getfield 10, 3) := by decide +kernel
theorem d_T_start_4 : decode b_T_start 4 = .ok (.invokevirtual 52, 3) := by decide +kernel
theorem d_T_start_7 : decode b_T_start 7 = .ok (.ifCond .ne 5, 3) := by decide +kernel
theorem d_T_start_10 : decode b_T_start 10 = .ok (.iconst 0, 1) := by decide +kernel
theorem d_T_start_11 : decode b_T_start 11 = .ok (.ireturn, 1) := by decide +kernel
theorem d_T_start_12 : decode b_T_start 12 = .ok (.iconst 0, 1) := by decide +kernel
theorem d_T_start_13 : decode b_T_start 13 = .ok (.istore_n 1, 1) := by decide +kernel
theorem d_T_start_14 : decode b_T_start 14 = .ok (.iload_n 1, 1) := by decide +kernel
theorem d_T_start_15 : decode b_T_start 15 = .ok (.iconst 3, 1) := by decide +kernel
theorem d_T_start_16 : decode b_T_start 16 = .ok (.if_icmp .ge 19, 3) := by decide +kernel
theorem d_T_start_19 : decode b_T_start 19 = .ok (.aload_n 0, 1) := by decide +kernel
theorem d_T_start_20 : decode b_T_start 20 = .ok (.getfield 18, 3) := by decide +kernel
theorem d_T_start_23 : decode b_T_start 23 = .ok (.iload_n 1, 1) := by decide +kernel
theorem d_T_start_24 : decode b_T_start 24 = .ok (.aaload, 1) := by decide +kernel
theorem d_T_start_25 : decode b_T_start 25 = .ok (.iconst 0, 1) := by decide +kernel
theorem d_T_start_26 : decode b_T_start 26 = .ok (.invokevirtual 56, 3) := by decide +kernel
theorem d_T_start_29 : decode b_T_start 29 = .ok (.iinc 1 1, 3) := by decide +kernel
theorem d_T_start_32 : decode b_T_start 32 = .ok (.goto (-18), 3) := by decide +kernel
theorem d_T_start_35 : decode b_T_start 35 = .ok (.aload_n 0, 1) := by decide +kernel
theorem d_T_start_36 : decode b_T_start 36 = .ok (.getfield 25, 3) := by decide +kernel
theorem d_T_start_39 : decode b_T_start 39 = .ok (.invokevirtual 60, 3) := by decide +kernel
theorem d_T_start_42 : decode b_T_start 42 = .ok (.aload_n 0, 1) := by decide +kernel
theorem d_T_start_43 : decode b_T_start 43 = .ok (.getfield 32, 3) := by decide +kernel
theorem d_T_start_46 : decode b_T_start 46 = .ok (.invokevirtual 62, 3) := by decide +kernel
theorem d_T_start_49 : decode b_T_start 49 = .ok (.aload_n 0, 1) := by decide +kernel
theorem d_T_start_50 : decode b_T_start 50 = .ok (.getfield 39, 3) := by decide +kernel
theorem d_T_start_53 : decode b_T_start 53 = .ok (.invokevirtual 65, 3) := by decide +kernel
theorem d_T_start_56 : decode b_T_start 56 = .ok (.aload_n 0, 1) := by decide +kernel
theorem d_T_start_57 : decode b_T_start 57 = .ok (.iconst 0, 1) := by decide +kernel
theorem d_T_start_58 : decode b_T_start 58 = .ok (.putfield 66, 3) := by decide +kernel
theorem d_T_start_61 : decode b_T_start 61 = .ok (.aload_n 0, 1) := by decide +kernel
theorem d_T_start_62 : decode b_T_start 62 = .ok (.iconst 0, 1) := by decide +kernel
theorem d_T_start_63 : decode b_T_start 63 = .ok (.putfield 70, 3) := by decide +kernel
theorem d_T_start_66 : decode b_T_start 66 = .ok (.aload_n 0, 1) := by decide +kernel
theorem d_T_start_67 : decode b_T_start 67 = .ok (.iconst 0, 1) := by decide +kernel
theorem d_T_start_68 : decode b_T_start 68 = .ok (.putfield 73, 3) := by decide +kernel
theorem d_T_start_71 : decode b_T_start 71 = .ok (.aload_n 0, 1) := by decide +kernel
theorem d_T_start_72 : decode b_T_start 72 = .ok (.iconst 0, 1) := by decide +kernel
theorem d_T_start_73 : decode b_T_start 73 = .ok (.putfield 76, 3) := by decide +kernel
theorem d_T_start_76 : decode b_T_start 76 = .ok (.aload_n 0, 1) := by decide +kernel
theorem d_T_start_77 : decode b_T_start 77 = .ok (.iconst 0, 1) := by decide +kernel
theorem d_T_start_78 : decode b_T_start 78 = .ok (.putfield 79, 3) := by decide +kernel
theorem d_T_start_81 : decode b_T_start 81 = .ok (.aload_n 0, 1) := by decide +kernel
theorem d_T_start_82 : decode b_T_start 82 = .ok (.iconst 1, 1) := by decide +kernel
theorem d_T_start_83 : decode b_T_start 83 = .ok (.putfield 44, 3) := by decide +kernel
theorem d_T_start_86 : decode b_T_start 86 = .ok (.iconst 1, 1) := by decide +kernel
theorem d_T_start_87 : decode b_T_start 87 = .ok (.ireturn, 1) := by decide +kernel
theorem d_T_step_0 : decode b_T_step 0 = .ok (.aload_n 0, 1) := by decide +kernel
theorem d_T_step_1 : decode b_T_step 1 = .ok (.getfield 44, 3) := by decide +kernel
theorem d_T_step_4 : decode b_T_step 4 = .ok (.ifCond .ne 13, 3) := by decide +kernel
theorem d_T_step_7 : decode b_T_step 7 = .ok (.new 82, 3) := by decide +kernel
theorem d_T_step_10 : decode b_T_step 10 = .ok (.dup, 1) := by decide +kernel
theorem d_T_step_11 : decode b_T_step 11 = .ok (.ldc 84, 2) := by decide +kernel
theorem d_T_step_13 : decode b_T_step 13 = .ok (.invokespecial 86, 3) := by decide +kernel
theorem d_T_step_16 : decode b_T_step 16 = .ok (.athrow, 1) := by decide +kernel
theorem d_T_step_17 : decode b_T_step 17 = .ok (.iload_n 1, 1) := by decide +kernel
theorem d_T_step_18 : decode b_T_step 18 = .ok (.iconst 1, 1) := by decide +kernel
theorem d_T_step_19 : decode b_T_step 19 = .ok (.if_icmp .lt 10, 3) := by decide +kernel
theorem d_T_step_22 : decode b_T_step 22 = .ok (.iload_n 1, 1) := by decide +kernel
theorem d_T_step_23 : decode b_T_step 23 = .ok (.sipush 2000, 3) := by decide +kernel
theorem d_T_step_26 : decode b_T_step 26 = .ok (.if_icmp .le 13, 3) := by decide +kernel
theorem d_T_step_29 : decode b_T_step 29 = .ok (.new 89, 3) := by decide +kernel
theorem d_T_step_32 : decode b_T_step 32 = .ok (.dup, 1) := by decide +kernel
theorem d_T_step_33 : decode b_T_step 33 = .ok (.ldc 91, 2) := by decide +kernel
theorem d_T_step_35 : decode b_T_step 35 = .ok (.invokespecial 93, 3) := by decide +kernel
theorem d_T_step_38 : decode b_T_step 38 = .ok (.athrow, 1) := by decide +kernel
theorem d_T_step_39 : decode b_T_step 39 = .ok (.iconst 0, 1) := by decide +kernel
theorem d_T_step_40 : decode b_T_step 40 = .ok (.istore_n 2, 1) := by decide +kernel
theorem d_T_step_41 : decode b_T_step 41 = .ok (.iload_n 2, 1) := by decide +kernel
theorem d_T_step_42 : decode b_T_step 42 = .ok (.iload_n 1, 1) := by decide +kernel
theorem d_T_step_43 : decode b_T_step 43 = .ok (.if_icmp .ge 20, 3) := by decide +kernel
theorem d_T_step_46 : decode b_T_step 46 = .ok (.aload_n 0, 1) := by decide +kernel
theorem d_T_step_47 : decode b_T_step 47 = .ok (.getfield 79, 3) := by decide +kernel
theorem d_T_step_50 : decode b_T_step 50 = .ok (.ifCond .ne 13, 3) := by decide +kernel
theorem d_T_step_53 : decode b_T_step 53 = .ok (.aload_n 0, 1) := by decide +kernel
theorem d_T_step_54 : decode b_T_step 54 = .ok (.invokevirtual 94, 3) := by decide +kernel
theorem d_T_step_57 : decode b_T_step 57 = .ok (.iinc 2 1, 3) := by decide +kernel
theorem d_T_step_60 : decode b_T_step 60 = .ok (.goto (-19), 3) := by decide +kernel
theorem d_T_step_63 : decode b_T_step 63 = .ok (.iload_n 2, 1) := by decide +kernel
theorem d_T_step_64 : decode b_T_step 64 = .ok (.ireturn, 1) := by decide +kernel
theorem d_T_input_0 : decode b_T_input 0 = .ok (.aload_n 0, 1) := by decide +kernel
theorem d_T_input_1 : decode b_T_input 1 = .ok (.getfield 44, 3) := by decide +kernel
theorem d_T_input_4 : decode b_T_input 4 = .ok (.ifCond .eq 21, 3) := by decide +kernel
theorem d_T_input_7 : decode b_T_input 7 = .ok (.aload_n 0, 1) := by decide +kernel
theorem d_T_input_8 : decode b_T_input 8 = .ok (.getfield 32, 3) := by decide +kernel
theorem d_T_input_11 : decode b_T_input 11 = .ok (.iload_n 1, 1) := by decide +kernel
theorem d_T_input_12 : decode b_T_input 12 = .ok (.ldc 99, 2) := by decide +kernel
theorem d_T_input_14 : decode b_T_input 14 = .ok (.iand, 1) := by decide +kernel
theorem d_T_input_15 : decode b_T_input 15 = .ok (.invokevirtual 100, 3) := by decide +kernel
theorem d_T_input_18 : decode b_T_input 18 = .ok (.ifCond .eq 7, 3) := by decide +kernel
theorem d_T_input_21 : decode b_T_input 21 = .ok (.iconst 1, 1) := by decide +kernel
theorem d_T_input_22 : decode b_T_input 22 = .ok (.goto 4, 3) := by decide +kernel
theorem d_T_input_25 : decode b_T_input 25 = .ok (.iconst 0, 1) := by decide +kernel
theorem d_T_input_26 : decode b_T_input 26 = .ok (.ireturn, 1) := by decide +kernel
theorem d_T_output_0 : decode b_T_output 0 = .ok (.aload_n 0, 1) := by decide +kernel
theorem d_T_output_1 : decode b_T_output 1 = .ok (.getfield 39, 3) := by decide +kernel
theorem d_T_output_4 : decode b_T_output 4 = .ok (.iload_n 1, 1) := by decide +kernel
theorem d_T_output_5 : decode b_T_output 5 = .ok (.invokevirtual 104, 3) := by decide +kernel
theorem d_T_output_8 : decode b_T_output 8 = .ok (.ifCond .ne 13, 3) := by decide +kernel
theorem d_T_output_11 : decode b_T_output 11 = .ok (.new 107, 3) := by decide +kernel
theorem d_T_output_14 : decode b_T_output 14 = .ok (.dup, 1) := by decide +kernel
theorem d_T_output_15 : decode b_T_output 15 = .ok (.ldc 109, 2) := by decide +kernel
theorem d_T_output_17 : decode b_T_output 17 = .ok (.invokespecial 111, 3) := by decide +kernel
theorem d_T_output_20 : decode b_T_output 20 = .ok (.athrow, 1) := by decide +kernel
theorem d_T_output_21 : decode b_T_output 21 = .ok (.aload_n 0, 1) := by decide +kernel
theorem d_T_output_22 : decode b_T_output 22 = .ok (.getfield 39, 3) := by decide +kernel
theorem d_T_output_25 : decode b_T_output 25 = .ok (.getfield 112, 3) := by decide +kernel
theorem d_T_output_28 : decode b_T_output 28 = .ok (.iload_n 1, 1) := by decide +kernel
theorem d_T_output_29 : decode b_T_output 29 = .ok (.iaload, 1) := by decide +kernel
theorem d_T_output_30 : decode b_T_output 30 = .ok (.ireturn, 1) := by decide +kernel
theorem d_T_perfect_0 : decode b_T_perfect 0 = .ok (.aload_n 0, 1) := by decide +kernel
theorem d_T_perfect_1 : decode b_T_perfect 1 = .ok (.getfield 25, 3) := by decide +kernel
theorem d_T_perfect_4 : decode b_T_perfect 4 = .ok (.getfield 116, 3) := by decide +kernel
theorem d_T_perfect_7 : decode b_T_perfect 7 = .ok (.iload_n 1, 1) := by decide +kernel
theorem d_T_perfect_8 : decode b_T_perfect 8 = .ok (.invokevirtual 104, 3) := by decide +kernel
theorem d_T_perfect_11 : decode b_T_perfect 11 = .ok (.ifCond .ne 13, 3) := by decide +kernel
theorem d_T_perfect_14 : decode b_T_perfect 14 = .ok (.new 107, 3) := by decide +kernel
theorem d_T_perfect_17 : decode b_T_perfect 17 = .ok (.dup, 1) := by decide +kernel
theorem d_T_perfect_18 : decode b_T_perfect 18 = .ok (.ldc 117, 2) := by decide +kernel
theorem d_T_perfect_20 : decode b_T_perfect 20 = .ok (.invokespecial 111, 3) := by decide +kernel
theorem d_T_perfect_23 : decode b_T_perfect 23 = .ok (.athrow, 1) := by decide +kernel
theorem d_T_perfect_24 : decode b_T_perfect 24 = .ok (.aload_n 0, 1) := by decide +kernel
theorem d_T_perfect_25 : decode b_T_perfect 25 = .ok (.getfield 25, 3) := by decide +kernel
theorem d_T_perfect_28 : decode b_T_perfect 28 = .ok (.getfield 116, 3) := by decide +kernel
theorem d_T_perfect_31 : decode b_T_perfect 31 = .ok (.getfield 112, 3) := by decide +kernel
theorem d_T_perfect_34 : decode b_T_perfect 34 = .ok (.iload_n 1, 1) := by decide +kernel
theorem d_T_perfect_35 : decode b_T_perfect 35 = .ok (.iaload, 1) := by decide +kernel
theorem d_T_perfect_36 : decode b_T_perfect 36 = .ok (.ireturn, 1) := by decide +kernel
theorem d_T_flip_0 : decode b_T_flip 0 = .ok (.aload_n 0, 1) := by decide +kernel
theorem d_T_flip_1 : decode b_T_flip 1 = .ok (.iload_n 1, 1) := by decide +kernel
theorem d_T_flip_2 : decode b_T_flip 2 = .ok (.invokevirtual 119, 3) := by decide +kernel
theorem d_T_flip_5 : decode b_T_flip 5 = .ok (.ifCond .eq 13, 3) := by decide +kernel
theorem d_T_flip_8 : decode b_T_flip 8 = .ok (.iload_n 2, 1) := by decide +kernel
theorem d_T_flip_9 : decode b_T_flip 9 = .ok (.iload_n 3, 1) := by decide +kernel
theorem d_T_flip_10 : decode b_T_flip 10 = .ok (.iload 4, 2) := by decide +kernel
theorem d_T_flip_12 : decode b_T_flip 12 = .ok (.invokestatic 122, 3) := by decide +kernel
theorem d_T_flip_15 : decode b_T_flip 15 = .ok (.ifCond .ne 13, 3) := by decide +kernel
theorem d_T_flip_18 : decode b_T_flip 18 = .ok (.new 107, 3) := by decide +kernel
theorem d_T_flip_21 : decode b_T_flip 21 = .ok (.dup, 1) := by decide +kernel
theorem d_T_flip_22 : decode b_T_flip 22 = .ok (.ldc 126, 2) := by decide +kernel
theorem d_T_flip_24 : decode b_T_flip 24 = .ok (.invokespecial 111, 3) := by decide +kernel
theorem d_T_flip_27 : decode b_T_flip 27 = .ok (.athrow, 1) := by decide +kernel
theorem d_T_flip_28 : decode b_T_flip 28 = .ok (.iconst 1, 1) := by decide +kernel
theorem d_T_flip_29 : decode b_T_flip 29 = .ok (.iload 4, 2) := by decide +kernel
theorem d_T_flip_31 : decode b_T_flip 31 = .ok (.ishl, 1) := by decide +kernel
theorem d_T_flip_32 : decode b_T_flip 32 = .ok (.istore 5, 2) := by decide +kernel
theorem d_T_flip_34 : decode b_T_flip 34 = .ok (.iload_n 2, 1) := by decide +kernel
theorem d_T_flip_35 : decode b_T_flip 35 = .ok (.ifCond .ne 22, 3) := by decide +kernel
theorem d_T_flip_38 : decode b_T_flip 38 = .ok (.aload_n 0, 1) := by decide +kernel
theorem d_T_flip_39 : decode b_T_flip 39 = .ok (.getfield 18, 3) := by decide +kernel
theorem d_T_flip_42 : decode b_T_flip 42 = .ok (.iload_n 1, 1) := by decide +kernel
theorem d_T_flip_43 : decode b_T_flip 43 = .ok (.aaload, 1) := by decide +kernel
theorem d_T_flip_44 : decode b_T_flip 44 = .ok (.getfield 128, 3) := by decide +kernel
theorem d_T_flip_47 : decode b_T_flip 47 = .ok (.iload_n 3, 1) := by decide +kernel
theorem d_T_flip_48 : decode b_T_flip 48 = .ok (.dup2, 1) := by decide +kernel
theorem d_T_flip_49 : decode b_T_flip 49 = .ok (.iaload, 1) := by decide +kernel
theorem d_T_flip_50 : decode b_T_flip 50 = .ok (.iload 5, 2) := by decide +kernel
theorem d_T_flip_52 : decode b_T_flip 52 = .ok (.ixor, 1) := by decide +kernel
theorem d_T_flip_53 : decode b_T_flip 53 = .ok (.iastore, 1) := by decide +kernel
theorem d_T_flip_54 : decode b_T_flip 54 = .ok (.goto 55, 3) := by decide +kernel
theorem d_T_flip_57 : decode b_T_flip 57 = .ok (.iload_n 2, 1) := by decide +kernel
theorem d_T_flip_58 : decode b_T_flip 58 = .ok (.iconst 1, 1) := by decide +kernel
theorem d_T_flip_59 : decode b_T_flip 59 = .ok (.if_icmp .ne 22, 3) := by decide +kernel
theorem d_T_flip_62 : decode b_T_flip 62 = .ok (.aload_n 0, 1) := by decide +kernel
theorem d_T_flip_63 : decode b_T_flip 63 = .ok (.getfield 18, 3) := by decide +kernel
theorem d_T_flip_66 : decode b_T_flip 66 = .ok (.iload_n 1, 1) := by decide +kernel
theorem d_T_flip_67 : decode b_T_flip 67 = .ok (.aaload, 1) := by decide +kernel
theorem d_T_flip_68 : decode b_T_flip 68 = .ok (.getfield 131, 3) := by decide +kernel
theorem d_T_flip_71 : decode b_T_flip 71 = .ok (.iload_n 3, 1) := by decide +kernel
theorem d_T_flip_72 : decode b_T_flip 72 = .ok (.dup2, 1) := by decide +kernel
theorem d_T_flip_73 : decode b_T_flip 73 = .ok (.iaload, 1) := by decide +kernel
theorem d_T_flip_74 : decode b_T_flip 74 = .ok (.iload 5, 2) := by decide +kernel
theorem d_T_flip_76 : decode b_T_flip 76 = .ok (.ixor, 1) := by decide +kernel
theorem d_T_flip_77 : decode b_T_flip 77 = .ok (.iastore, 1) := by decide +kernel
theorem d_T_flip_78 : decode b_T_flip 78 = .ok (.goto 31, 3) := by decide +kernel
theorem d_T_flip_81 : decode b_T_flip 81 = .ok (.aload_n 0, 1) := by decide +kernel
theorem d_T_flip_82 : decode b_T_flip 82 = .ok (.getfield 18, 3) := by decide +kernel
theorem d_T_flip_85 : decode b_T_flip 85 = .ok (.iload_n 1, 1) := by decide +kernel
theorem d_T_flip_86 : decode b_T_flip 86 = .ok (.aaload, 1) := by decide +kernel
theorem d_T_flip_87 : decode b_T_flip 87 = .ok (.aload_n 0, 1) := by decide +kernel
theorem d_T_flip_88 : decode b_T_flip 88 = .ok (.getfield 10, 3) := by decide +kernel
theorem d_T_flip_91 : decode b_T_flip 91 = .ok (.aload_n 0, 1) := by decide +kernel
theorem d_T_flip_92 : decode b_T_flip 92 = .ok (.getfield 18, 3) := by decide +kernel
theorem d_T_flip_95 : decode b_T_flip 95 = .ok (.iload_n 1, 1) := by decide +kernel
theorem d_T_flip_96 : decode b_T_flip 96 = .ok (.aaload, 1) := by decide +kernel
theorem d_T_flip_97 : decode b_T_flip 97 = .ok (.getfield 134, 3) := by decide +kernel
theorem d_T_flip_100 : decode b_T_flip 100 = .ok (.iload 5, 2) := by decide +kernel
theorem d_T_flip_102 : decode b_T_flip 102 = .ok (.ixor, 1) := by decide +kernel
theorem d_T_flip_103 : decode b_T_flip 103 = .ok (.invokevirtual 137, 3) := by decide +kernel
theorem d_T_flip_106 : decode b_T_flip 106 = .ok (.putfield 134, 3) := by decide +kernel
theorem d_T_flip_109 : decode b_T_flip 109 = .ok (.return_, 1) := by decide +kernel
theorem d_T_freeze_0 : decode b_T_freeze 0 = .ok (.aload_n 0, 1) := by decide +kernel
theorem d_T_freeze_1 : decode b_T_freeze 1 = .ok (.iload_n 1, 1) := by decide +kernel
theorem d_T_freeze_2 : decode b_T_freeze 2 = .ok (.invokevirtual 119, 3) := by decide +kernel
theorem d_T_freeze_5 : decode b_T_freeze 5 = .ok (.ifCond .ne 5, 3) := by decide +kernel
theorem d_T_freeze_8 : decode b_T_freeze 8 = .ok (.iconst 0, 1) := by decide +kernel
theorem d_T_freeze_9 : decode b_T_freeze 9 = .ok (.ireturn, 1) := by decide +kernel
theorem d_T_freeze_10 : decode b_T_freeze 10 = .ok (.aload_n 0, 1) := by decide +kernel
theorem d_T_freeze_11 : decode b_T_freeze 11 = .ok (.getfield 18, 3) := by decide +kernel
theorem d_T_freeze_14 : decode b_T_freeze 14 = .ok (.iload_n 1, 1) := by decide +kernel
theorem d_T_freeze_15 : decode b_T_freeze 15 = .ok (.aaload, 1) := by decide +kernel
theorem d_T_freeze_16 : decode b_T_freeze 16 = .ok (.iload_n 2, 1) := by decide +kernel
theorem d_T_freeze_17 : decode b_T_freeze 17 = .ok (.putfield 141, 3) := by decide +kernel
theorem d_T_freeze_20 : decode b_T_freeze 20 = .ok (.iconst 1, 1) := by decide +kernel
theorem d_T_freeze_21 : decode b_T_freeze 21 = .ok (.ireturn, 1) := by decide +kernel
theorem d_T_skip_0 : decode b_T_skip 0 = .ok (.aload_n 0, 1) := by decide +kernel
theorem d_T_skip_1 : decode b_T_skip 1 = .ok (.iload_n 1, 1) := by decide +kernel
theorem d_T_skip_2 : decode b_T_skip 2 = .ok (.invokevirtual 119, 3) := by decide +kernel
theorem d_T_skip_5 : decode b_T_skip 5 = .ok (.ifCond .ne 5, 3) := by decide +kernel
theorem d_T_skip_8 : decode b_T_skip 8 = .ok (.iconst 0, 1) := by decide +kernel
theorem d_T_skip_9 : decode b_T_skip 9 = .ok (.ireturn, 1) := by decide +kernel
theorem d_T_skip_10 : decode b_T_skip 10 = .ok (.aload_n 0, 1) := by decide +kernel
theorem d_T_skip_11 : decode b_T_skip 11 = .ok (.getfield 18, 3) := by decide +kernel
theorem d_T_skip_14 : decode b_T_skip 14 = .ok (.iload_n 1, 1) := by decide +kernel
theorem d_T_skip_15 : decode b_T_skip 15 = .ok (.aaload, 1) := by decide +kernel
theorem d_T_skip_16 : decode b_T_skip 16 = .ok (.iconst 1, 1) := by decide +kernel
theorem d_T_skip_17 : decode b_T_skip 17 = .ok (.putfield 144, 3) := by decide +kernel
theorem d_T_skip_20 : decode b_T_skip 20 = .ok (.iconst 1, 1) := by decide +kernel
theorem d_T_skip_21 : decode b_T_skip 21 = .ok (.ireturn, 1) := by decide +kernel
theorem d_T_swap_0 : decode b_T_swap 0 = .ok (.aload_n 0, 1) := by decide +kernel
theorem d_T_swap_1 : decode b_T_swap 1 = .ok (.iload_n 1, 1) := by decide +kernel
theorem d_T_swap_2 : decode b_T_swap 2 = .ok (.invokevirtual 119, 3) := by decide +kernel
theorem d_T_swap_5 : decode b_T_swap 5 = .ok (.ifCond .eq 10, 3) := by decide +kernel
theorem d_T_swap_8 : decode b_T_swap 8 = .ok (.aload_n 0, 1) := by decide +kernel
theorem d_T_swap_9 : decode b_T_swap 9 = .ok (.getfield 79, 3) := by decide +kernel
theorem d_T_swap_12 : decode b_T_swap 12 = .ok (.ifCond .eq 5, 3) := by decide +kernel
theorem d_T_swap_15 : decode b_T_swap 15 = .ok (.iconst 0, 1) := by decide +kernel
theorem d_T_swap_16 : decode b_T_swap 16 = .ok (.ireturn, 1) := by decide +kernel
theorem d_T_swap_17 : decode b_T_swap 17 = .ok (.aload_n 0, 1) := by decide +kernel
theorem d_T_swap_18 : decode b_T_swap 18 = .ok (.invokevirtual 147, 3) := by decide +kernel
theorem d_T_swap_21 : decode b_T_swap 21 = .ok (.aload_n 0, 1) := by decide +kernel
theorem d_T_swap_22 : decode b_T_swap 22 = .ok (.getfield 18, 3) := by decide +kernel
theorem d_T_swap_25 : decode b_T_swap 25 = .ok (.iload_n 1, 1) := by decide +kernel
theorem d_T_swap_26 : decode b_T_swap 26 = .ok (.aaload, 1) := by decide +kernel
theorem d_T_swap_27 : decode b_T_swap 27 = .ok (.getfield 151, 3) := by decide +kernel
theorem d_T_swap_30 : decode b_T_swap 30 = .ok (.ifCond .ne 7, 3) := by decide +kernel
theorem d_T_swap_33 : decode b_T_swap 33 = .ok (.iconst 1, 1) := by decide +kernel
theorem d_T_swap_34 : decode b_T_swap 34 = .ok (.goto 4, 3) := by decide +kernel
theorem d_T_swap_37 : decode b_T_swap 37 = .ok (.iconst 0, 1) := by decide +kernel
theorem d_T_swap_38 : decode b_T_swap 38 = .ok (.isub, 1) := by decide +kernel
theorem d_T_swap_39 : decode b_T_swap 39 = .ok (.istore_n 2, 1) := by decide +kernel
theorem d_T_swap_40 : decode b_T_swap 40 = .ok (.aload_n 0, 1) := by decide +kernel
theorem d_T_swap_41 : decode b_T_swap 41 = .ok (.iload_n 2, 1) := by decide +kernel
theorem d_T_swap_42 : decode b_T_swap 42 = .ok (.invokevirtual 154, 3) := by decide +kernel
theorem d_T_swap_45 : decode b_T_swap 45 = .ok (.ifCond .ne 5, 3) := by decide +kernel
theorem d_T_swap_48 : decode b_T_swap 48 = .ok (.iconst 0, 1) := by decide +kernel
theorem d_T_swap_49 : decode b_T_swap 49 = .ok (.ireturn, 1) := by decide +kernel
theorem d_T_swap_50 : decode b_T_swap 50 = .ok (.aload_n 0, 1) := by decide +kernel
theorem d_T_swap_51 : decode b_T_swap 51 = .ok (.getfield 18, 3) := by decide +kernel
theorem d_T_swap_54 : decode b_T_swap 54 = .ok (.iload_n 1, 1) := by decide +kernel
theorem d_T_swap_55 : decode b_T_swap 55 = .ok (.aaload, 1) := by decide +kernel
theorem d_T_swap_56 : decode b_T_swap 56 = .ok (.iconst 1, 1) := by decide +kernel
theorem d_T_swap_57 : decode b_T_swap 57 = .ok (.invokevirtual 56, 3) := by decide +kernel
theorem d_T_swap_60 : decode b_T_swap 60 = .ok (.iconst 1, 1) := by decide +kernel
theorem d_T_swap_61 : decode b_T_swap 61 = .ok (.ireturn, 1) := by decide +kernel
theorem d_T_allow_0 : decode b_T_allow 0 = .ok (.aload_n 0, 1) := by decide +kernel
theorem d_T_allow_1 : decode b_T_allow 1 = .ok (.iload_n 1, 1) := by decide +kernel
theorem d_T_allow_2 : decode b_T_allow 2 = .ok (.putfield 76, 3) := by decide +kernel
theorem d_T_allow_5 : decode b_T_allow 5 = .ok (.return_, 1) := by decide +kernel
theorem d_T_module_0 : decode b_T_module 0 = .ok (.aload_n 0, 1) := by decide +kernel
theorem d_T_module_1 : decode b_T_module 1 = .ok (.iload_n 1, 1) := by decide +kernel
theorem d_T_module_2 : decode b_T_module 2 = .ok (.invokevirtual 119, 3) := by decide +kernel
theorem d_T_module_5 : decode b_T_module 5 = .ok (.ifCond .ne 5, 3) := by decide +kernel
theorem d_T_module_8 : decode b_T_module 8 = .ok (.iconst (-1), 1) := by decide +kernel
theorem d_T_module_9 : decode b_T_module 9 = .ok (.ireturn, 1) := by decide +kernel
theorem d_T_module_10 : decode b_T_module 10 = .ok (.aload_n 0, 1) := by decide +kernel
theorem d_T_module_11 : decode b_T_module 11 = .ok (.getfield 18, 3) := by decide +kernel
theorem d_T_module_14 : decode b_T_module 14 = .ok (.iload_n 1, 1) := by decide +kernel
theorem d_T_module_15 : decode b_T_module 15 = .ok (.aaload, 1) := by decide +kernel
theorem d_T_module_16 : decode b_T_module 16 = .ok (.astore_n 3, 1) := by decide +kernel
theorem d_T_module_17 : decode b_T_module 17 = .ok (.iload_n 2, 1) := by decide +kernel
theorem d_T_module_18 : decode b_T_module 18 = .ok (.tableswitch 68 0 5 #[38, 43, 48, 53, 58, 63], 38) := by decide +kernel
theorem d_T_module_56 : decode b_T_module 56 = .ok (.aload_n 3, 1) := by decide +kernel
theorem d_T_module_57 : decode b_T_module 57 = .ok (.getfield 151, 3) := by decide +kernel
theorem d_T_module_60 : decode b_T_module 60 = .ok (.ireturn, 1) := by decide +kernel
theorem d_T_module_61 : decode b_T_module 61 = .ok (.aload_n 3, 1) := by decide +kernel
theorem d_T_module_62 : decode b_T_module 62 = .ok (.invokevirtual 157, 3) := by decide +kernel
theorem d_T_module_65 : decode b_T_module 65 = .ok (.ireturn, 1) := by decide +kernel
theorem d_T_module_66 : decode b_T_module 66 = .ok (.aload_n 3, 1) := by decide +kernel
theorem d_T_module_67 : decode b_T_module 67 = .ok (.getfield 160, 3) := by decide +kernel
theorem d_T_module_70 : decode b_T_module 70 = .ok (.ireturn, 1) := by decide +kernel
theorem d_T_module_71 : decode b_T_module 71 = .ok (.aload_n 3, 1) := by decide +kernel
theorem d_T_module_72 : decode b_T_module 72 = .ok (.getfield 134, 3) := by decide +kernel
theorem d_T_module_75 : decode b_T_module 75 = .ok (.ireturn, 1) := by decide +kernel
theorem d_T_module_76 : decode b_T_module 76 = .ok (.aload_n 3, 1) := by decide +kernel
theorem d_T_module_77 : decode b_T_module 77 = .ok (.getfield 163, 3) := by decide +kernel
theorem d_T_module_80 : decode b_T_module 80 = .ok (.ireturn, 1) := by decide +kernel
theorem d_T_module_81 : decode b_T_module 81 = .ok (.aload_n 3, 1) := by decide +kernel
theorem d_T_module_82 : decode b_T_module 82 = .ok (.getfield 166, 3) := by decide +kernel
theorem d_T_module_85 : decode b_T_module 85 = .ok (.ireturn, 1) := by decide +kernel
theorem d_T_module_86 : decode b_T_module 86 = .ok (.iconst (-1), 1) := by decide +kernel
theorem d_T_module_87 : decode b_T_module 87 = .ok (.ireturn, 1) := by decide +kernel
theorem d_T_register_0 : decode b_T_register 0 = .ok (.aload_n 0, 1) := by decide +kernel
theorem d_T_register_1 : decode b_T_register 1 = .ok (.iload_n 1, 1) := by decide +kernel
theorem d_T_register_2 : decode b_T_register 2 = .ok (.invokevirtual 119, 3) := by decide +kernel
theorem d_T_register_5 : decode b_T_register 5 = .ok (.ifCond .eq 13, 3) := by decide +kernel
theorem d_T_register_8 : decode b_T_register 8 = .ok (.iload_n 2, 1) := by decide +kernel
theorem d_T_register_9 : decode b_T_register 9 = .ok (.ifCond .lt 9, 3) := by decide +kernel
theorem d_T_register_12 : decode b_T_register 12 = .ok (.iload_n 2, 1) := by decide +kernel
theorem d_T_register_13 : decode b_T_register 13 = .ok (.bipush 8, 2) := by decide +kernel
theorem d_T_register_15 : decode b_T_register 15 = .ok (.if_icmp .lt 5, 3) := by decide +kernel
theorem d_T_register_18 : decode b_T_register 18 = .ok (.iconst (-1), 1) := by decide +kernel
theorem d_T_register_19 : decode b_T_register 19 = .ok (.ireturn, 1) := by decide +kernel
theorem d_T_register_20 : decode b_T_register 20 = .ok (.aload_n 0, 1) := by decide +kernel
theorem d_T_register_21 : decode b_T_register 21 = .ok (.getfield 18, 3) := by decide +kernel
theorem d_T_register_24 : decode b_T_register 24 = .ok (.iload_n 1, 1) := by decide +kernel
theorem d_T_register_25 : decode b_T_register 25 = .ok (.aaload, 1) := by decide +kernel
theorem d_T_register_26 : decode b_T_register 26 = .ok (.getfield 128, 3) := by decide +kernel
theorem d_T_register_29 : decode b_T_register 29 = .ok (.iload_n 2, 1) := by decide +kernel
theorem d_T_register_30 : decode b_T_register 30 = .ok (.iaload, 1) := by decide +kernel
theorem d_T_register_31 : decode b_T_register 31 = .ok (.ireturn, 1) := by decide +kernel
theorem d_T_code_0 : decode b_T_code 0 = .ok (.aload_n 0, 1) := by decide +kernel
theorem d_T_code_1 : decode b_T_code 1 = .ok (.iload_n 1, 1) := by decide +kernel
theorem d_T_code_2 : decode b_T_code 2 = .ok (.invokevirtual 119, 3) := by decide +kernel
theorem d_T_code_5 : decode b_T_code 5 = .ok (.ifCond .eq 13, 3) := by decide +kernel
theorem d_T_code_8 : decode b_T_code 8 = .ok (.iload_n 2, 1) := by decide +kernel
theorem d_T_code_9 : decode b_T_code 9 = .ok (.ifCond .lt 9, 3) := by decide +kernel
theorem d_T_code_12 : decode b_T_code 12 = .ok (.iload_n 2, 1) := by decide +kernel
theorem d_T_code_13 : decode b_T_code 13 = .ok (.bipush 32, 2) := by decide +kernel
theorem d_T_code_15 : decode b_T_code 15 = .ok (.if_icmp .lt 5, 3) := by decide +kernel
theorem d_T_code_18 : decode b_T_code 18 = .ok (.iconst (-1), 1) := by decide +kernel
theorem d_T_code_19 : decode b_T_code 19 = .ok (.ireturn, 1) := by decide +kernel
theorem d_T_code_20 : decode b_T_code 20 = .ok (.aload_n 0, 1) := by decide +kernel
theorem d_T_code_21 : decode b_T_code 21 = .ok (.getfield 18, 3) := by decide +kernel
theorem d_T_code_24 : decode b_T_code 24 = .ok (.iload_n 1, 1) := by decide +kernel
theorem d_T_code_25 : decode b_T_code 25 = .ok (.aaload, 1) := by decide +kernel
theorem d_T_code_26 : decode b_T_code 26 = .ok (.getfield 131, 3) := by decide +kernel
theorem d_T_code_29 : decode b_T_code 29 = .ok (.iload_n 2, 1) := by decide +kernel
theorem d_T_code_30 : decode b_T_code 30 = .ok (.iaload, 1) := by decide +kernel
theorem d_T_code_31 : decode b_T_code 31 = .ok (.ireturn, 1) := by decide +kernel
theorem d_T_state_0 : decode b_T_state 0 = .ok (.iload_n 1, 1) := by decide +kernel
theorem d_T_state_1 : decode b_T_state 1 = .ok (.tableswitch 103 0 6 #[43, 48, 53, 58, 66, 77, 90], 43) := by decide +kernel
theorem d_T_state_44 : decode b_T_state 44 = .ok (.aload_n 0, 1) := by decide +kernel
theorem d_T_state_45 : decode b_T_state 45 = .ok (.invokevirtual 169, 3) := by decide +kernel
theorem d_T_state_48 : decode b_T_state 48 = .ok (.ireturn, 1) := by decide +kernel
theorem d_T_state_49 : decode b_T_state 49 = .ok (.aload_n 0, 1) := by decide +kernel
theorem d_T_state_50 : decode b_T_state 50 = .ok (.getfield 70, 3) := by decide +kernel
theorem d_T_state_53 : decode b_T_state 53 = .ok (.ireturn, 1) := by decide +kernel
theorem d_T_state_54 : decode b_T_state 54 = .ok (.aload_n 0, 1) := by decide +kernel
theorem d_T_state_55 : decode b_T_state 55 = .ok (.getfield 73, 3) := by decide +kernel
theorem d_T_state_58 : decode b_T_state 58 = .ok (.ireturn, 1) := by decide +kernel
theorem d_T_state_59 : decode b_T_state 59 = .ok (.aload_n 0, 1) := by decide +kernel
theorem d_T_state_60 : decode b_T_state 60 = .ok (.getfield 39, 3) := by decide +kernel
theorem d_T_state_63 : decode b_T_state 63 = .ok (.getfield 172, 3) := by decide +kernel
theorem d_T_state_66 : decode b_T_state 66 = .ok (.ireturn, 1) := by decide +kernel
theorem d_T_state_67 : decode b_T_state 67 = .ok (.aload_n 0, 1) := by decide +kernel
theorem d_T_state_68 : decode b_T_state 68 = .ok (.getfield 25, 3) := by decide +kernel
theorem d_T_state_71 : decode b_T_state 71 = .ok (.getfield 116, 3) := by decide +kernel
theorem d_T_state_74 : decode b_T_state 74 = .ok (.getfield 172, 3) := by decide +kernel
theorem d_T_state_77 : decode b_T_state 77 = .ok (.ireturn, 1) := by decide +kernel
theorem d_T_state_78 : decode b_T_state 78 = .ok (.aload_n 0, 1) := by decide +kernel
theorem d_T_state_79 : decode b_T_state 79 = .ok (.getfield 32, 3) := by decide +kernel
theorem d_T_state_82 : decode b_T_state 82 = .ok (.getfield 175, 3) := by decide +kernel
theorem d_T_state_85 : decode b_T_state 85 = .ok (.aload_n 0, 1) := by decide +kernel
theorem d_T_state_86 : decode b_T_state 86 = .ok (.getfield 66, 3) := by decide +kernel
theorem d_T_state_89 : decode b_T_state 89 = .ok (.isub, 1) := by decide +kernel
theorem d_T_state_90 : decode b_T_state 90 = .ok (.ireturn, 1) := by decide +kernel
theorem d_T_state_91 : decode b_T_state 91 = .ok (.aload_n 0, 1) := by decide +kernel
theorem d_T_state_92 : decode b_T_state 92 = .ok (.getfield 76, 3) := by decide +kernel
theorem d_T_state_95 : decode b_T_state 95 = .ok (.ifCond .eq 7, 3) := by decide +kernel
theorem d_T_state_98 : decode b_T_state 98 = .ok (.iconst 1, 1) := by decide +kernel
theorem d_T_state_99 : decode b_T_state 99 = .ok (.goto 4, 3) := by decide +kernel
theorem d_T_state_102 : decode b_T_state 102 = .ok (.iconst 0, 1) := by decide +kernel
theorem d_T_state_103 : decode b_T_state 103 = .ok (.ireturn, 1) := by decide +kernel
theorem d_T_state_104 : decode b_T_state 104 = .ok (.iconst (-1), 1) := by decide +kernel
theorem d_T_state_105 : decode b_T_state 105 = .ok (.ireturn, 1) := by decide +kernel
theorem d_T_currentMode_0 : decode b_T_currentMode 0 = .ok (.aload_n 0, 1) := by decide +kernel
theorem d_T_currentMode_1 : decode b_T_currentMode 1 = .ok (.getfield 44, 3) := by decide +kernel
theorem d_T_currentMode_4 : decode b_T_currentMode 4 = .ok (.ifCond .ne 5, 3) := by decide +kernel
theorem d_T_currentMode_7 : decode b_T_currentMode 7 = .ok (.iconst (-1), 1) := by decide +kernel
theorem d_T_currentMode_8 : decode b_T_currentMode 8 = .ok (.ireturn, 1) := by decide +kernel
theorem d_T_currentMode_9 : decode b_T_currentMode 9 = .ok (.aload_n 0, 1) := by decide +kernel
theorem d_T_currentMode_10 : decode b_T_currentMode 10 = .ok (.getfield 79, 3) := by decide +kernel
theorem d_T_currentMode_13 : decode b_T_currentMode 13 = .ok (.ifCond .eq 7, 3) := by decide +kernel
theorem d_T_currentMode_16 : decode b_T_currentMode 16 = .ok (.iconst 0, 1) := by decide +kernel
theorem d_T_currentMode_17 : decode b_T_currentMode 17 = .ok (.goto 7, 3) := by decide +kernel
theorem d_T_currentMode_20 : decode b_T_currentMode 20 = .ok (.aload_n 0, 1) := by decide +kernel
theorem d_T_currentMode_21 : decode b_T_currentMode 21 = .ok (.invokevirtual 147, 3) := by decide +kernel
theorem d_T_currentMode_24 : decode b_T_currentMode 24 = .ok (.ireturn, 1) := by decide +kernel
theorem d_T_hasModule_0 : decode b_T_hasModule 0 = .ok (.aload_n 0, 1) := by decide +kernel
theorem d_T_hasModule_1 : decode b_T_hasModule 1 = .ok (.getfield 44, 3) := by decide +kernel
theorem d_T_hasModule_4 : decode b_T_hasModule 4 = .ok (.ifCond .eq 16, 3) := by decide +kernel
theorem d_T_hasModule_7 : decode b_T_hasModule 7 = .ok (.iload_n 1, 1) := by decide +kernel
theorem d_T_hasModule_8 : decode b_T_hasModule 8 = .ok (.ifCond .lt 12, 3) := by decide +kernel
theorem d_T_hasModule_11 : decode b_T_hasModule 11 = .ok (.iload_n 1, 1) := by decide +kernel
theorem d_T_hasModule_12 : decode b_T_hasModule 12 = .ok (.iconst 3, 1) := by decide +kernel
theorem d_T_hasModule_13 : decode b_T_hasModule 13 = .ok (.if_icmp .ge 7, 3) := by decide +kernel
theorem d_T_hasModule_16 : decode b_T_hasModule 16 = .ok (.iconst 1, 1) := by decide +kernel
theorem d_T_hasModule_17 : decode b_T_hasModule 17 = .ok (.goto 4, 3) := by decide +kernel
theorem d_T_hasModule_20 : decode b_T_hasModule 20 = .ok (.iconst 0, 1) := by decide +kernel
theorem d_T_hasModule_21 : decode b_T_hasModule 21 = .ok (.ireturn, 1) := by decide +kernel
theorem d_T_hasBit_0 : decode b_T_hasBit 0 = .ok (.iload_n 0, 1) := by decide +kernel
theorem d_T_hasBit_1 : decode b_T_hasBit 1 = .ok (.tableswitch 94 0 2 #[27, 51, 75], 27) := by decide +kernel
theorem d_T_hasBit_28 : decode b_T_hasBit 28 = .ok (.iload_n 1, 1) := by decide +kernel
theorem d_T_hasBit_29 : decode b_T_hasBit 29 = .ok (.bipush 8, 2) := by decide +kernel
theorem d_T_hasBit_31 : decode b_T_hasBit 31 = .ok (.invokestatic 176, 3) := by decide +kernel
theorem d_T_hasBit_34 : decode b_T_hasBit 34 = .ok (.ifCond .eq 16, 3) := by decide +kernel
theorem d_T_hasBit_37 : decode b_T_hasBit 37 = .ok (.iload_n 2, 1) := by decide +kernel
theorem d_T_hasBit_38 : decode b_T_hasBit 38 = .ok (.bipush 16, 2) := by decide +kernel
theorem d_T_hasBit_40 : decode b_T_hasBit 40 = .ok (.invokestatic 176, 3) := by decide +kernel
theorem d_T_hasBit_43 : decode b_T_hasBit 43 = .ok (.ifCond .eq 7, 3) := by decide +kernel
theorem d_T_hasBit_46 : decode b_T_hasBit 46 = .ok (.iconst 1, 1) := by decide +kernel
theorem d_T_hasBit_47 : decode b_T_hasBit 47 = .ok (.goto 4, 3) := by decide +kernel
theorem d_T_hasBit_50 : decode b_T_hasBit 50 = .ok (.iconst 0, 1) := by decide +kernel
theorem d_T_hasBit_51 : decode b_T_hasBit 51 = .ok (.ireturn, 1) := by decide +kernel
theorem d_T_hasBit_52 : decode b_T_hasBit 52 = .ok (.iload_n 1, 1) := by decide +kernel
theorem d_T_hasBit_53 : decode b_T_hasBit 53 = .ok (.bipush 32, 2) := by decide +kernel
theorem d_T_hasBit_55 : decode b_T_hasBit 55 = .ok (.invokestatic 176, 3) := by decide +kernel
theorem d_T_hasBit_58 : decode b_T_hasBit 58 = .ok (.ifCond .eq 16, 3) := by decide +kernel
theorem d_T_hasBit_61 : decode b_T_hasBit 61 = .ok (.iload_n 2, 1) := by decide +kernel
theorem d_T_hasBit_62 : decode b_T_hasBit 62 = .ok (.bipush 22, 2) := by decide +kernel
theorem d_T_hasBit_64 : decode b_T_hasBit 64 = .ok (.invokestatic 176, 3) := by decide +kernel
theorem d_T_hasBit_67 : decode b_T_hasBit 67 = .ok (.ifCond .eq 7, 3) := by decide +kernel
theorem d_T_hasBit_70 : decode b_T_hasBit 70 = .ok (.iconst 1, 1) := by decide +kernel
theorem d_T_hasBit_71 : decode b_T_hasBit 71 = .ok (.goto 4, 3) := by decide +kernel
theorem d_T_hasBit_74 : decode b_T_hasBit 74 = .ok (.iconst 0, 1) := by decide +kernel
theorem d_T_hasBit_75 : decode b_T_hasBit 75 = .ok (.ireturn, 1) := by decide +kernel
theorem d_T_hasBit_76 : decode b_T_hasBit 76 = .ok (.iload_n 1, 1) := by decide +kernel
theorem d_T_hasBit_77 : decode b_T_hasBit 77 = .ok (.ifCond .ne 16, 3) := by decide +kernel
theorem d_T_hasBit_80 : decode b_T_hasBit 80 = .ok (.iload_n 2, 1) := by decide +kernel
theorem d_T_hasBit_81 : decode b_T_hasBit 81 = .ok (.bipush 6, 2) := by decide +kernel
theorem d_T_hasBit_83 : decode b_T_hasBit 83 = .ok (.invokestatic 176, 3) := by decide +kernel
theorem d_T_hasBit_86 : decode b_T_hasBit 86 = .ok (.ifCond .eq 7, 3) := by decide +kernel
theorem d_T_hasBit_89 : decode b_T_hasBit 89 = .ok (.iconst 1, 1) := by decide +kernel
theorem d_T_hasBit_90 : decode b_T_hasBit 90 = .ok (.goto 4, 3) := by decide +kernel
theorem d_T_hasBit_93 : decode b_T_hasBit 93 = .ok (.iconst 0, 1) := by decide +kernel
theorem d_T_hasBit_94 : decode b_T_hasBit 94 = .ok (.ireturn, 1) := by decide +kernel
theorem d_T_hasBit_95 : decode b_T_hasBit 95 = .ok (.iconst 0, 1) := by decide +kernel
theorem d_T_hasBit_96 : decode b_T_hasBit 96 = .ok (.ireturn, 1) := by decide +kernel
theorem d_T_isBelow_0 : decode b_T_isBelow 0 = .ok (.iload_n 0, 1) := by decide +kernel
theorem d_T_isBelow_1 : decode b_T_isBelow 1 = .ok (.ifCond .lt 12, 3) := by decide +kernel
theorem d_T_isBelow_4 : decode b_T_isBelow 4 = .ok (.iload_n 0, 1) := by decide +kernel
theorem d_T_isBelow_5 : decode b_T_isBelow 5 = .ok (.iload_n 1, 1) := by decide +kernel
theorem d_T_isBelow_6 : decode b_T_isBelow 6 = .ok (.if_icmp .ge 7, 3) := by decide +kernel
theorem d_T_isBelow_9 : decode b_T_isBelow 9 = .ok (.iconst 1, 1) := by decide +kernel
theorem d_T_isBelow_10 : decode b_T_isBelow 10 = .ok (.goto 4, 3) := by decide +kernel
theorem d_T_isBelow_13 : decode b_T_isBelow 13 = .ok (.iconst 0, 1) := by decide +kernel
theorem d_T_isBelow_14 : decode b_T_isBelow 14 = .ok (.ireturn, 1) := by decide +kernel
theorem d_T_canGoOnWith_0 : decode b_T_canGoOnWith 0 = .ok (.iload_n 1, 1) := by decide +kernel
theorem d_T_canGoOnWith_1 : decode b_T_canGoOnWith 1 = .ok (.iconst 1, 1) := by decide +kernel
theorem d_T_canGoOnWith_2 : decode b_T_canGoOnWith 2 = .ok (.if_icmp .gt 15, 3) := by decide +kernel
theorem d_T_canGoOnWith_5 : decode b_T_canGoOnWith 5 = .ok (.iload_n 1, 1) := by decide +kernel
theorem d_T_canGoOnWith_6 : decode b_T_canGoOnWith 6 = .ok (.iconst 1, 1) := by decide +kernel
theorem d_T_canGoOnWith_7 : decode b_T_canGoOnWith 7 = .ok (.if_icmp .ne 14, 3) := by decide +kernel
theorem d_T_canGoOnWith_10 : decode b_T_canGoOnWith 10 = .ok (.aload_n 0, 1) := by decide +kernel
theorem d_T_canGoOnWith_11 : decode b_T_canGoOnWith 11 = .ok (.getfield 76, 3) := by decide +kernel
theorem d_T_canGoOnWith_14 : decode b_T_canGoOnWith 14 = .ok (.ifCond .eq 7, 3) := by decide +kernel
theorem d_T_canGoOnWith_17 : decode b_T_canGoOnWith 17 = .ok (.iconst 1, 1) := by decide +kernel
theorem d_T_canGoOnWith_18 : decode b_T_canGoOnWith 18 = .ok (.goto 4, 3) := by decide +kernel
theorem d_T_canGoOnWith_21 : decode b_T_canGoOnWith 21 = .ok (.iconst 0, 1) := by decide +kernel
theorem d_T_canGoOnWith_22 : decode b_T_canGoOnWith 22 = .ok (.ireturn, 1) := by decide +kernel
theorem d_T_countInStep_0 : decode b_T_countInStep 0 = .ok (.iconst 0, 1) := by decide +kernel
theorem d_T_countInStep_1 : decode b_T_countInStep 1 = .ok (.istore_n 1, 1) := by decide +kernel
theorem d_T_countInStep_2 : decode b_T_countInStep 2 = .ok (.iconst 0, 1) := by decide +kernel
theorem d_T_countInStep_3 : decode b_T_countInStep 3 = .ok (.istore_n 2, 1) := by decide +kernel
theorem d_T_countInStep_4 : decode b_T_countInStep 4 = .ok (.iload_n 2, 1) := by decide +kernel
theorem d_T_countInStep_5 : decode b_T_countInStep 5 = .ok (.iconst 3, 1) := by decide +kernel
theorem d_T_countInStep_6 : decode b_T_countInStep 6 = .ok (.if_icmp .ge 24, 3) := by decide +kernel
theorem d_T_countInStep_9 : decode b_T_countInStep 9 = .ok (.aload_n 0, 1) := by decide +kernel
theorem d_T_countInStep_10 : decode b_T_countInStep 10 = .ok (.getfield 18, 3) := by decide +kernel
theorem d_T_countInStep_13 : decode b_T_countInStep 13 = .ok (.iload_n 2, 1) := by decide +kernel
theorem d_T_countInStep_14 : decode b_T_countInStep 14 = .ok (.aaload, 1) := by decide +kernel
theorem d_T_countInStep_15 : decode b_T_countInStep 15 = .ok (.getfield 151, 3) := by decide +kernel
theorem d_T_countInStep_18 : decode b_T_countInStep 18 = .ok (.ifCond .ne 6, 3) := by decide +kernel
theorem d_T_countInStep_21 : decode b_T_countInStep 21 = .ok (.iinc 1 1, 3) := by decide +kernel
theorem d_T_countInStep_24 : decode b_T_countInStep 24 = .ok (.iinc 2 1, 3) := by decide +kernel
theorem d_T_countInStep_27 : decode b_T_countInStep 27 = .ok (.goto (-23), 3) := by decide +kernel
theorem d_T_countInStep_30 : decode b_T_countInStep 30 = .ok (.iload_n 1, 1) := by decide +kernel
theorem d_T_countInStep_31 : decode b_T_countInStep 31 = .ok (.ireturn, 1) := by decide +kernel
theorem d_T_doOneStep_0 : decode b_T_doOneStep 0 = .ok (.aload_n 0, 1) := by decide +kernel
theorem d_T_doOneStep_1 : decode b_T_doOneStep 1 = .ok (.dup, 1) := by decide +kernel
theorem d_T_doOneStep_2 : decode b_T_doOneStep 2 = .ok (.getfield 70, 3) := by decide +kernel
theorem d_T_doOneStep_5 : decode b_T_doOneStep 5 = .ok (.iconst 1, 1) := by decide +kernel
theorem d_T_doOneStep_6 : decode b_T_doOneStep 6 = .ok (.iadd, 1) := by decide +kernel
theorem d_T_doOneStep_7 : decode b_T_doOneStep 7 = .ok (.putfield 70, 3) := by decide +kernel
theorem d_T_doOneStep_10 : decode b_T_doOneStep 10 = .ok (.aload_n 0, 1) := by decide +kernel
theorem d_T_doOneStep_11 : decode b_T_doOneStep 11 = .ok (.getfield 25, 3) := by decide +kernel
theorem d_T_doOneStep_14 : decode b_T_doOneStep 14 = .ok (.aload_n 0, 1) := by decide +kernel
theorem d_T_doOneStep_15 : decode b_T_doOneStep 15 = .ok (.getfield 10, 3) := by decide +kernel
theorem d_T_doOneStep_18 : decode b_T_doOneStep 18 = .ok (.aload_n 0, 1) := by decide +kernel
theorem d_T_doOneStep_19 : decode b_T_doOneStep 19 = .ok (.getfield 32, 3) := by decide +kernel
theorem d_T_doOneStep_22 : decode b_T_doOneStep 22 = .ok (.invokevirtual 179, 3) := by decide +kernel
theorem d_T_doOneStep_25 : decode b_T_doOneStep 25 = .ok (.aload_n 0, 1) := by decide +kernel
theorem d_T_doOneStep_26 : decode b_T_doOneStep 26 = .ok (.invokevirtual 183, 3) := by decide +kernel
theorem d_T_doOneStep_29 : decode b_T_doOneStep 29 = .ok (.aload_n 0, 1) := by decide +kernel
theorem d_T_doOneStep_30 : decode b_T_doOneStep 30 = .ok (.invokevirtual 186, 3) := by decide +kernel
theorem d_T_doOneStep_33 : decode b_T_doOneStep 33 = .ok (.istore_n 1, 1) := by decide +kernel
theorem d_T_doOneStep_34 : decode b_T_doOneStep 34 = .ok (.iload_n 1, 1) := by decide +kernel
theorem d_T_doOneStep_35 : decode b_T_doOneStep 35 = .ok (.iconst (-1), 1) := by decide +kernel
theorem d_T_doOneStep_36 : decode b_T_doOneStep 36 = .ok (.if_icmp .ne 9, 3) := by decide +kernel
theorem d_T_doOneStep_39 : decode b_T_doOneStep 39 = .ok (.aload_n 0, 1) := by decide +kernel
theorem d_T_doOneStep_40 : decode b_T_doOneStep 40 = .ok (.iconst 1, 1) := by decide +kernel
theorem d_T_doOneStep_41 : decode b_T_doOneStep 41 = .ok (.putfield 79, 3) := by decide +kernel
theorem d_T_doOneStep_44 : decode b_T_doOneStep 44 = .ok (.return_, 1) := by decide +kernel
theorem d_T_doOneStep_45 : decode b_T_doOneStep 45 = .ok (.aload_n 0, 1) := by decide +kernel
theorem d_T_doOneStep_46 : decode b_T_doOneStep 46 = .ok (.aload_n 0, 1) := by decide +kernel
theorem d_T_doOneStep_47 : decode b_T_doOneStep 47 = .ok (.getfield 18, 3) := by decide +kernel
theorem d_T_doOneStep_50 : decode b_T_doOneStep 50 = .ok (.iload_n 1, 1) := by decide +kernel
theorem d_T_doOneStep_51 : decode b_T_doOneStep 51 = .ok (.aaload, 1) := by decide +kernel
theorem d_T_doOneStep_52 : decode b_T_doOneStep 52 = .ok (.invokevirtual 189, 3) := by decide +kernel
theorem d_T_doOneStep_55 : decode b_T_doOneStep 55 = .ok (.aload_n 0, 1) := by decide +kernel
theorem d_T_doOneStep_56 : decode b_T_doOneStep 56 = .ok (.invokevirtual 193, 3) := by decide +kernel
theorem d_T_doOneStep_59 : decode b_T_doOneStep 59 = .ok (.aload_n 0, 1) := by decide +kernel
theorem d_T_doOneStep_60 : decode b_T_doOneStep 60 = .ok (.invokevirtual 196, 3) := by decide +kernel
theorem d_T_doOneStep_63 : decode b_T_doOneStep 63 = .ok (.ifCond .eq 17, 3) := by decide +kernel
theorem d_T_doOneStep_66 : decode b_T_doOneStep 66 = .ok (.aload_n 0, 1) := by decide +kernel
theorem d_T_doOneStep_67 : decode b_T_doOneStep 67 = .ok (.invokevirtual 199, 3) := by decide +kernel
theorem d_T_doOneStep_70 : decode b_T_doOneStep 70 = .ok (.ifCond .eq 10, 3) := by decide +kernel
theorem d_T_doOneStep_73 : decode b_T_doOneStep 73 = .ok (.aload_n 0, 1) := by decide +kernel
theorem d_T_doOneStep_74 : decode b_T_doOneStep 74 = .ok (.invokevirtual 202, 3) := by decide +kernel
theorem d_T_doOneStep_77 : decode b_T_doOneStep 77 = .ok (.ifCond .ne 9, 3) := by decide +kernel
theorem d_T_doOneStep_80 : decode b_T_doOneStep 80 = .ok (.aload_n 0, 1) := by decide +kernel
theorem d_T_doOneStep_81 : decode b_T_doOneStep 81 = .ok (.iconst 1, 1) := by decide +kernel
theorem d_T_doOneStep_82 : decode b_T_doOneStep 82 = .ok (.putfield 79, 3) := by decide +kernel
theorem d_T_doOneStep_85 : decode b_T_doOneStep 85 = .ok (.return_, 1) := by decide +kernel
theorem d_T_doOneStep_86 : decode b_T_doOneStep 86 = .ok (.aload_n 0, 1) := by decide +kernel
theorem d_T_doOneStep_87 : decode b_T_doOneStep 87 = .ok (.invokevirtual 205, 3) := by decide +kernel
theorem d_T_doOneStep_90 : decode b_T_doOneStep 90 = .ok (.aload_n 0, 1) := by decide +kernel
theorem d_T_doOneStep_91 : decode b_T_doOneStep 91 = .ok (.invokevirtual 208, 3) := by decide +kernel
theorem d_T_doOneStep_94 : decode b_T_doOneStep 94 = .ok (.return_, 1) := by decide +kernel
theorem d_T_doInstructions_0 : decode b_T_doInstructions 0 = .ok (.iconst 0, 1) := by decide +kernel
theorem d_T_doInstructions_1 : decode b_T_doInstructions 1 = .ok (.istore_n 1, 1) := by decide +kernel
theorem d_T_doInstructions_2 : decode b_T_doInstructions 2 = .ok (.iload_n 1, 1) := by decide +kernel
theorem d_T_doInstructions_3 : decode b_T_doInstructions 3 = .ok (.iconst 3, 1) := by decide +kernel
theorem d_T_doInstructions_4 : decode b_T_doInstructions 4 = .ok (.if_icmp .ge 105, 3) := by decide +kernel
theorem d_T_doInstructions_7 : decode b_T_doInstructions 7 = .ok (.aload_n 0, 1) := by decide +kernel
theorem d_T_doInstructions_8 : decode b_T_doInstructions 8 = .ok (.getfield 18, 3) := by decide +kernel
theorem d_T_doInstructions_11 : decode b_T_doInstructions 11 = .ok (.iload_n 1, 1) := by decide +kernel
theorem d_T_doInstructions_12 : decode b_T_doInstructions 12 = .ok (.aaload, 1) := by decide +kernel
theorem d_T_doInstructions_13 : decode b_T_doInstructions 13 = .ok (.invokevirtual 211, 3) := by decide +kernel
theorem d_T_doInstructions_16 : decode b_T_doInstructions 16 = .ok (.aload_n 0, 1) := by decide +kernel
theorem d_T_doInstructions_17 : decode b_T_doInstructions 17 = .ok (.getfield 18, 3) := by decide +kernel
theorem d_T_doInstructions_20 : decode b_T_doInstructions 20 = .ok (.iload_n 1, 1) := by decide +kernel
theorem d_T_doInstructions_21 : decode b_T_doInstructions 21 = .ok (.aaload, 1) := by decide +kernel
theorem d_T_doInstructions_22 : decode b_T_doInstructions 22 = .ok (.getfield 151, 3) := by decide +kernel
theorem d_T_doInstructions_25 : decode b_T_doInstructions 25 = .ok (.ifCond .eq 6, 3) := by decide +kernel
theorem d_T_doInstructions_28 : decode b_T_doInstructions 28 = .ok (.goto 75, 3) := by decide +kernel
theorem d_T_doInstructions_31 : decode b_T_doInstructions 31 = .ok (.aload_n 0, 1) := by decide +kernel
theorem d_T_doInstructions_32 : decode b_T_doInstructions 32 = .ok (.getfield 18, 3) := by decide +kernel
theorem d_T_doInstructions_35 : decode b_T_doInstructions 35 = .ok (.iload_n 1, 1) := by decide +kernel
theorem d_T_doInstructions_36 : decode b_T_doInstructions 36 = .ok (.aaload, 1) := by decide +kernel
theorem d_T_doInstructions_37 : decode b_T_doInstructions 37 = .ok (.getfield 144, 3) := by decide +kernel
theorem d_T_doInstructions_40 : decode b_T_doInstructions 40 = .ok (.ifCond .eq 29, 3) := by decide +kernel
theorem d_T_doInstructions_43 : decode b_T_doInstructions 43 = .ok (.aload_n 0, 1) := by decide +kernel
theorem d_T_doInstructions_44 : decode b_T_doInstructions 44 = .ok (.getfield 18, 3) := by decide +kernel
theorem d_T_doInstructions_47 : decode b_T_doInstructions 47 = .ok (.iload_n 1, 1) := by decide +kernel
theorem d_T_doInstructions_48 : decode b_T_doInstructions 48 = .ok (.aaload, 1) := by decide +kernel
theorem d_T_doInstructions_49 : decode b_T_doInstructions 49 = .ok (.iconst 0, 1) := by decide +kernel
theorem d_T_doInstructions_50 : decode b_T_doInstructions 50 = .ok (.putfield 144, 3) := by decide +kernel
theorem d_T_doInstructions_53 : decode b_T_doInstructions 53 = .ok (.aload_n 0, 1) := by decide +kernel
theorem d_T_doInstructions_54 : decode b_T_doInstructions 54 = .ok (.getfield 18, 3) := by decide +kernel
theorem d_T_doInstructions_57 : decode b_T_doInstructions 57 = .ok (.iload_n 1, 1) := by decide +kernel
theorem d_T_doInstructions_58 : decode b_T_doInstructions 58 = .ok (.aaload, 1) := by decide +kernel
theorem d_T_doInstructions_59 : decode b_T_doInstructions 59 = .ok (.aload_n 0, 1) := by decide +kernel
theorem d_T_doInstructions_60 : decode b_T_doInstructions 60 = .ok (.getfield 10, 3) := by decide +kernel
theorem d_T_doInstructions_63 : decode b_T_doInstructions 63 = .ok (.invokevirtual 214, 3) := by decide +kernel
theorem d_T_doInstructions_66 : decode b_T_doInstructions 66 = .ok (.goto 16, 3) := by decide +kernel
theorem d_T_doInstructions_69 : decode b_T_doInstructions 69 = .ok (.aload_n 0, 1) := by decide +kernel
theorem d_T_doInstructions_70 : decode b_T_doInstructions 70 = .ok (.getfield 18, 3) := by decide +kernel
theorem d_T_doInstructions_73 : decode b_T_doInstructions 73 = .ok (.iload_n 1, 1) := by decide +kernel
theorem d_T_doInstructions_74 : decode b_T_doInstructions 74 = .ok (.aaload, 1) := by decide +kernel
theorem d_T_doInstructions_75 : decode b_T_doInstructions 75 = .ok (.aload_n 0, 1) := by decide +kernel
theorem d_T_doInstructions_76 : decode b_T_doInstructions 76 = .ok (.getfield 10, 3) := by decide +kernel
theorem d_T_doInstructions_79 : decode b_T_doInstructions 79 = .ok (.invokevirtual 218, 3) := by decide +kernel
theorem d_T_doInstructions_82 : decode b_T_doInstructions 82 = .ok (.aload_n 0, 1) := by decide +kernel
theorem d_T_doInstructions_83 : decode b_T_doInstructions 83 = .ok (.getfield 18, 3) := by decide +kernel
theorem d_T_doInstructions_86 : decode b_T_doInstructions 86 = .ok (.iload_n 1, 1) := by decide +kernel
theorem d_T_doInstructions_87 : decode b_T_doInstructions 87 = .ok (.aaload, 1) := by decide +kernel
theorem d_T_doInstructions_88 : decode b_T_doInstructions 88 = .ok (.getfield 141, 3) := by decide +kernel
theorem d_T_doInstructions_91 : decode b_T_doInstructions 91 = .ok (.ifCond .eq 12, 3) := by decide +kernel
theorem d_T_doInstructions_94 : decode b_T_doInstructions 94 = .ok (.aload_n 0, 1) := by decide +kernel
theorem d_T_doInstructions_95 : decode b_T_doInstructions 95 = .ok (.getfield 18, 3) := by decide +kernel
theorem d_T_doInstructions_98 : decode b_T_doInstructions 98 = .ok (.iload_n 1, 1) := by decide +kernel
theorem d_T_doInstructions_99 : decode b_T_doInstructions 99 = .ok (.aaload, 1) := by decide +kernel
theorem d_T_doInstructions_100 : decode b_T_doInstructions 100 = .ok (.invokevirtual 221, 3) := by decide +kernel
theorem d_T_doInstructions_103 : decode b_T_doInstructions 103 = .ok (.iinc 1 1, 3) := by decide +kernel
theorem d_T_doInstructions_106 : decode b_T_doInstructions 106 = .ok (.goto (-104), 3) := by decide +kernel
theorem d_T_doInstructions_109 : decode b_T_doInstructions 109 = .ok (.return_, 1) := by decide +kernel
theorem d_T_vote_0 : decode b_T_vote 0 = .ok (.aload_n 0, 1) := by decide +kernel
theorem d_T_vote_1 : decode b_T_vote 1 = .ok (.invokevirtual 224, 3) := by decide +kernel
theorem d_T_vote_4 : decode b_T_vote 4 = .ok (.istore_n 1, 1) := by decide +kernel
theorem d_T_vote_5 : decode b_T_vote 5 = .ok (.iload_n 1, 1) := by decide +kernel
theorem d_T_vote_6 : decode b_T_vote 6 = .ok (.iconst (-1), 1) := by decide +kernel
theorem d_T_vote_7 : decode b_T_vote 7 = .ok (.if_icmp .ne 5, 3) := by decide +kernel
theorem d_T_vote_10 : decode b_T_vote 10 = .ok (.iconst (-1), 1) := by decide +kernel
theorem d_T_vote_11 : decode b_T_vote 11 = .ok (.ireturn, 1) := by decide +kernel
theorem d_T_vote_12 : decode b_T_vote 12 = .ok (.iconst 0, 1) := by decide +kernel
theorem d_T_vote_13 : decode b_T_vote 13 = .ok (.istore_n 2, 1) := by decide +kernel
theorem d_T_vote_14 : decode b_T_vote 14 = .ok (.iload_n 2, 1) := by decide +kernel
theorem d_T_vote_15 : decode b_T_vote 15 = .ok (.iconst 3, 1) := by decide +kernel
theorem d_T_vote_16 : decode b_T_vote 16 = .ok (.if_icmp .ge 27, 3) := by decide +kernel
theorem d_T_vote_19 : decode b_T_vote 19 = .ok (.aload_n 0, 1) := by decide +kernel
theorem d_T_vote_20 : decode b_T_vote 20 = .ok (.getfield 18, 3) := by decide +kernel
theorem d_T_vote_23 : decode b_T_vote 23 = .ok (.iload_n 2, 1) := by decide +kernel
theorem d_T_vote_24 : decode b_T_vote 24 = .ok (.aaload, 1) := by decide +kernel
theorem d_T_vote_25 : decode b_T_vote 25 = .ok (.aload_n 0, 1) := by decide +kernel
theorem d_T_vote_26 : decode b_T_vote 26 = .ok (.getfield 18, 3) := by decide +kernel
theorem d_T_vote_29 : decode b_T_vote 29 = .ok (.iload_n 2, 1) := by decide +kernel
theorem d_T_vote_30 : decode b_T_vote 30 = .ok (.aaload, 1) := by decide +kernel
theorem d_T_vote_31 : decode b_T_vote 31 = .ok (.invokevirtual 227, 3) := by decide +kernel
theorem d_T_vote_34 : decode b_T_vote 34 = .ok (.putfield 230, 3) := by decide +kernel
theorem d_T_vote_37 : decode b_T_vote 37 = .ok (.iinc 2 1, 3) := by decide +kernel
theorem d_T_vote_40 : decode b_T_vote 40 = .ok (.goto (-26), 3) := by decide +kernel
theorem d_T_vote_43 : decode b_T_vote 43 = .ok (.aload_n 0, 1) := by decide +kernel
theorem d_T_vote_44 : decode b_T_vote 44 = .ok (.aload_n 0, 1) := by decide +kernel
theorem d_T_vote_45 : decode b_T_vote 45 = .ok (.getfield 18, 3) := by decide +kernel
theorem d_T_vote_48 : decode b_T_vote 48 = .ok (.iload_n 1, 1) := by decide +kernel
theorem d_T_vote_49 : decode b_T_vote 49 = .ok (.aaload, 1) := by decide +kernel
theorem d_T_vote_50 : decode b_T_vote 50 = .ok (.getfield 230, 3) := by decide +kernel
theorem d_T_vote_53 : decode b_T_vote 53 = .ok (.invokevirtual 233, 3) := by decide +kernel
theorem d_T_vote_56 : decode b_T_vote 56 = .ok (.aload_n 0, 1) := by decide +kernel
theorem d_T_vote_57 : decode b_T_vote 57 = .ok (.invokevirtual 236, 3) := by decide +kernel
theorem d_T_vote_60 : decode b_T_vote 60 = .ok (.if_icmp .ne 5, 3) := by decide +kernel
theorem d_T_vote_63 : decode b_T_vote 63 = .ok (.iload_n 1, 1) := by decide +kernel
theorem d_T_vote_64 : decode b_T_vote 64 = .ok (.ireturn, 1) := by decide +kernel
theorem d_T_vote_65 : decode b_T_vote 65 = .ok (.aload_n 0, 1) := by decide +kernel
theorem d_T_vote_66 : decode b_T_vote 66 = .ok (.dup, 1) := by decide +kernel
theorem d_T_vote_67 : decode b_T_vote 67 = .ok (.getfield 73, 3) := by decide +kernel
theorem d_T_vote_70 : decode b_T_vote 70 = .ok (.iconst 1, 1) := by decide +kernel
theorem d_T_vote_71 : decode b_T_vote 71 = .ok (.iadd, 1) := by decide +kernel
theorem d_T_vote_72 : decode b_T_vote 72 = .ok (.putfield 73, 3) := by decide +kernel
theorem d_T_vote_75 : decode b_T_vote 75 = .ok (.aload_n 0, 1) := by decide +kernel
theorem d_T_vote_76 : decode b_T_vote 76 = .ok (.invokevirtual 239, 3) := by decide +kernel
theorem d_T_vote_79 : decode b_T_vote 79 = .ok (.istore_n 2, 1) := by decide +kernel
theorem d_T_vote_80 : decode b_T_vote 80 = .ok (.iload_n 2, 1) := by decide +kernel
theorem d_T_vote_81 : decode b_T_vote 81 = .ok (.iconst (-1), 1) := by decide +kernel
theorem d_T_vote_82 : decode b_T_vote 82 = .ok (.if_icmp .ne 8, 3) := by decide +kernel
theorem d_T_vote_85 : decode b_T_vote 85 = .ok (.aload_n 0, 1) := by decide +kernel
theorem d_T_vote_86 : decode b_T_vote 86 = .ok (.invokevirtual 242, 3) := by decide +kernel
theorem d_T_vote_89 : decode b_T_vote 89 = .ok (.istore_n 2, 1) := by decide +kernel
theorem d_T_vote_90 : decode b_T_vote 90 = .ok (.iload_n 2, 1) := by decide +kernel
theorem d_T_vote_91 : decode b_T_vote 91 = .ok (.iconst (-1), 1) := by decide +kernel
theorem d_T_vote_92 : decode b_T_vote 92 = .ok (.if_icmp .eq 16, 3) := by decide +kernel
theorem d_T_vote_95 : decode b_T_vote 95 = .ok (.aload_n 0, 1) := by decide +kernel
theorem d_T_vote_96 : decode b_T_vote 96 = .ok (.aload_n 0, 1) := by decide +kernel
theorem d_T_vote_97 : decode b_T_vote 97 = .ok (.getfield 18, 3) := by decide +kernel
theorem d_T_vote_100 : decode b_T_vote 100 = .ok (.iload_n 2, 1) := by decide +kernel
theorem d_T_vote_101 : decode b_T_vote 101 = .ok (.aaload, 1) := by decide +kernel
theorem d_T_vote_102 : decode b_T_vote 102 = .ok (.getfield 230, 3) := by decide +kernel
theorem d_T_vote_105 : decode b_T_vote 105 = .ok (.invokevirtual 245, 3) := by decide +kernel
theorem d_T_vote_108 : decode b_T_vote 108 = .ok (.iload_n 2, 1) := by decide +kernel
theorem d_T_vote_109 : decode b_T_vote 109 = .ok (.ireturn, 1) := by decide +kernel
theorem d_T_oneOfTheAlikePair_0 : decode b_T_oneOfTheAlikePair 0 = .ok (.iconst 0, 1) := by decide +kernel
theorem d_T_oneOfTheAlikePair_1 : decode b_T_oneOfTheAlikePair 1 = .ok (.istore_n 1, 1) := by decide +kernel
theorem d_T_oneOfTheAlikePair_2 : decode b_T_oneOfTheAlikePair 2 = .ok (.iload_n 1, 1) := by decide +kernel
theorem d_T_oneOfTheAlikePair_3 : decode b_T_oneOfTheAlikePair 3 = .ok (.iconst 3, 1) := by decide +kernel
theorem d_T_oneOfTheAlikePair_4 : decode b_T_oneOfTheAlikePair 4 = .ok (.if_icmp .ge 40, 3) := by decide +kernel
theorem d_T_oneOfTheAlikePair_7 : decode b_T_oneOfTheAlikePair 7 = .ok (.aload_n 0, 1) := by decide +kernel
theorem d_T_oneOfTheAlikePair_8 : decode b_T_oneOfTheAlikePair 8 = .ok (.getfield 18, 3) := by decide +kernel
theorem d_T_oneOfTheAlikePair_11 : decode b_T_oneOfTheAlikePair 11 = .ok (.iload_n 1, 1) := by decide +kernel
theorem d_T_oneOfTheAlikePair_12 : decode b_T_oneOfTheAlikePair 12 = .ok (.aaload, 1) := by decide +kernel
theorem d_T_oneOfTheAlikePair_13 : decode b_T_oneOfTheAlikePair 13 = .ok (.invokevirtual 248, 3) := by decide +kernel
theorem d_T_oneOfTheAlikePair_16 : decode b_T_oneOfTheAlikePair 16 = .ok (.ifCond .eq 22, 3) := by decide +kernel
theorem d_T_oneOfTheAlikePair_19 : decode b_T_oneOfTheAlikePair 19 = .ok (.aload_n 0, 1) := by decide +kernel
theorem d_T_oneOfTheAlikePair_20 : decode b_T_oneOfTheAlikePair 20 = .ok (.aload_n 0, 1) := by decide +kernel
theorem d_T_oneOfTheAlikePair_21 : decode b_T_oneOfTheAlikePair 21 = .ok (.getfield 18, 3) := by decide +kernel
theorem d_T_oneOfTheAlikePair_24 : decode b_T_oneOfTheAlikePair 24 = .ok (.iload_n 1, 1) := by decide +kernel
theorem d_T_oneOfTheAlikePair_25 : decode b_T_oneOfTheAlikePair 25 = .ok (.aaload, 1) := by decide +kernel
theorem d_T_oneOfTheAlikePair_26 : decode b_T_oneOfTheAlikePair 26 = .ok (.getfield 230, 3) := by decide +kernel
theorem d_T_oneOfTheAlikePair_29 : decode b_T_oneOfTheAlikePair 29 = .ok (.invokevirtual 233, 3) := by decide +kernel
theorem d_T_oneOfTheAlikePair_32 : decode b_T_oneOfTheAlikePair 32 = .ok (.iconst 2, 1) := by decide +kernel
theorem d_T_oneOfTheAlikePair_33 : decode b_T_oneOfTheAlikePair 33 = .ok (.if_icmp .ne 5, 3) := by decide +kernel
theorem d_T_oneOfTheAlikePair_36 : decode b_T_oneOfTheAlikePair 36 = .ok (.iload_n 1, 1) := by decide +kernel
theorem d_T_oneOfTheAlikePair_37 : decode b_T_oneOfTheAlikePair 37 = .ok (.ireturn, 1) := by decide +kernel
theorem d_T_oneOfTheAlikePair_38 : decode b_T_oneOfTheAlikePair 38 = .ok (.iinc 1 1, 3) := by decide +kernel
theorem d_T_oneOfTheAlikePair_41 : decode b_T_oneOfTheAlikePair 41 = .ok (.goto (-39), 3) := by decide +kernel
theorem d_T_oneOfTheAlikePair_44 : decode b_T_oneOfTheAlikePair 44 = .ok (.iconst (-1), 1) := by decide +kernel
theorem d_T_oneOfTheAlikePair_45 : decode b_T_oneOfTheAlikePair 45 = .ok (.ireturn, 1) := by decide +kernel
theorem d_T_soundOneOfTwo_0 : decode b_T_soundOneOfTwo 0 = .ok (.iconst (-1), 1) := by decide +kernel
theorem d_T_soundOneOfTwo_1 : decode b_T_soundOneOfTwo 1 = .ok (.istore_n 1, 1) := by decide +kernel
theorem d_T_soundOneOfTwo_2 : decode b_T_soundOneOfTwo 2 = .ok (.iconst 0, 1) := by decide +kernel
theorem d_T_soundOneOfTwo_3 : decode b_T_soundOneOfTwo 3 = .ok (.istore_n 2, 1) := by decide +kernel
theorem d_T_soundOneOfTwo_4 : decode b_T_soundOneOfTwo 4 = .ok (.iconst 0, 1) := by decide +kernel
theorem d_T_soundOneOfTwo_5 : decode b_T_soundOneOfTwo 5 = .ok (.istore_n 3, 1) := by decide +kernel
theorem d_T_soundOneOfTwo_6 : decode b_T_soundOneOfTwo 6 = .ok (.iload_n 3, 1) := by decide +kernel
theorem d_T_soundOneOfTwo_7 : decode b_T_soundOneOfTwo 7 = .ok (.iconst 3, 1) := by decide +kernel
theorem d_T_soundOneOfTwo_8 : decode b_T_soundOneOfTwo 8 = .ok (.if_icmp .ge 38, 3) := by decide +kernel
theorem d_T_soundOneOfTwo_11 : decode b_T_soundOneOfTwo 11 = .ok (.aload_n 0, 1) := by decide +kernel
theorem d_T_soundOneOfTwo_12 : decode b_T_soundOneOfTwo 12 = .ok (.getfield 18, 3) := by decide +kernel
theorem d_T_soundOneOfTwo_15 : decode b_T_soundOneOfTwo 15 = .ok (.iload_n 3, 1) := by decide +kernel
theorem d_T_soundOneOfTwo_16 : decode b_T_soundOneOfTwo 16 = .ok (.aaload, 1) := by decide +kernel
theorem d_T_soundOneOfTwo_17 : decode b_T_soundOneOfTwo 17 = .ok (.invokevirtual 248, 3) := by decide +kernel
theorem d_T_soundOneOfTwo_20 : decode b_T_soundOneOfTwo 20 = .ok (.ifCond .eq 20, 3) := by decide +kernel
theorem d_T_soundOneOfTwo_23 : decode b_T_soundOneOfTwo 23 = .ok (.aload_n 0, 1) := by decide +kernel
theorem d_T_soundOneOfTwo_24 : decode b_T_soundOneOfTwo 24 = .ok (.getfield 18, 3) := by decide +kernel
theorem d_T_soundOneOfTwo_27 : decode b_T_soundOneOfTwo 27 = .ok (.iload_n 3, 1) := by decide +kernel
theorem d_T_soundOneOfTwo_28 : decode b_T_soundOneOfTwo 28 = .ok (.aaload, 1) := by decide +kernel
theorem d_T_soundOneOfTwo_29 : decode b_T_soundOneOfTwo 29 = .ok (.getfield 251, 3) := by decide +kernel
theorem d_T_soundOneOfTwo_32 : decode b_T_soundOneOfTwo 32 = .ok (.ifCond .ne 8, 3) := by decide +kernel
theorem d_T_soundOneOfTwo_35 : decode b_T_soundOneOfTwo 35 = .ok (.iload_n 3, 1) := by decide +kernel
theorem d_T_soundOneOfTwo_36 : decode b_T_soundOneOfTwo 36 = .ok (.istore_n 1, 1) := by decide +kernel
theorem d_T_soundOneOfTwo_37 : decode b_T_soundOneOfTwo 37 = .ok (.iinc 2 1, 3) := by decide +kernel
theorem d_T_soundOneOfTwo_40 : decode b_T_soundOneOfTwo 40 = .ok (.iinc 3 1, 3) := by decide +kernel
theorem d_T_soundOneOfTwo_43 : decode b_T_soundOneOfTwo 43 = .ok (.goto (-37), 3) := by decide +kernel
theorem d_T_soundOneOfTwo_46 : decode b_T_soundOneOfTwo 46 = .ok (.iload_n 2, 1) := by decide +kernel
theorem d_T_soundOneOfTwo_47 : decode b_T_soundOneOfTwo 47 = .ok (.iconst 1, 1) := by decide +kernel
theorem d_T_soundOneOfTwo_48 : decode b_T_soundOneOfTwo 48 = .ok (.if_icmp .ne 15, 3) := by decide +kernel
theorem d_T_soundOneOfTwo_51 : decode b_T_soundOneOfTwo 51 = .ok (.aload_n 0, 1) := by decide +kernel
theorem d_T_soundOneOfTwo_52 : decode b_T_soundOneOfTwo 52 = .ok (.invokevirtual 236, 3) := by decide +kernel
theorem d_T_soundOneOfTwo_55 : decode b_T_soundOneOfTwo 55 = .ok (.iconst 2, 1) := by decide +kernel
theorem d_T_soundOneOfTwo_56 : decode b_T_soundOneOfTwo 56 = .ok (.if_icmp .ne 7, 3) := by decide +kernel
theorem d_T_soundOneOfTwo_59 : decode b_T_soundOneOfTwo 59 = .ok (.iload_n 1, 1) := by decide +kernel
theorem d_T_soundOneOfTwo_60 : decode b_T_soundOneOfTwo 60 = .ok (.goto 4, 3) := by decide +kernel
theorem d_T_soundOneOfTwo_63 : decode b_T_soundOneOfTwo 63 = .ok (.iconst (-1), 1) := by decide +kernel
theorem d_T_soundOneOfTwo_64 : decode b_T_soundOneOfTwo 64 = .ok (.ireturn, 1) := by decide +kernel
theorem d_T_nameAllUnlike_0 : decode b_T_nameAllUnlike 0 = .ok (.iconst 0, 1) := by decide +kernel
theorem d_T_nameAllUnlike_1 : decode b_T_nameAllUnlike 1 = .ok (.istore_n 2, 1) := by decide +kernel
theorem d_T_nameAllUnlike_2 : decode b_T_nameAllUnlike 2 = .ok (.iload_n 2, 1) := by decide +kernel
theorem d_T_nameAllUnlike_3 : decode b_T_nameAllUnlike 3 = .ok (.iconst 3, 1) := by decide +kernel
theorem d_T_nameAllUnlike_4 : decode b_T_nameAllUnlike 4 = .ok (.if_icmp .ge 43, 3) := by decide +kernel
theorem d_T_nameAllUnlike_7 : decode b_T_nameAllUnlike 7 = .ok (.aload_n 0, 1) := by decide +kernel
theorem d_T_nameAllUnlike_8 : decode b_T_nameAllUnlike 8 = .ok (.getfield 18, 3) := by decide +kernel
theorem d_T_nameAllUnlike_11 : decode b_T_nameAllUnlike 11 = .ok (.iload_n 2, 1) := by decide +kernel
theorem d_T_nameAllUnlike_12 : decode b_T_nameAllUnlike 12 = .ok (.aaload, 1) := by decide +kernel
theorem d_T_nameAllUnlike_13 : decode b_T_nameAllUnlike 13 = .ok (.invokevirtual 248, 3) := by decide +kernel
theorem d_T_nameAllUnlike_16 : decode b_T_nameAllUnlike 16 = .ok (.ifCond .eq 25, 3) := by decide +kernel
theorem d_T_nameAllUnlike_19 : decode b_T_nameAllUnlike 19 = .ok (.aload_n 0, 1) := by decide +kernel
theorem d_T_nameAllUnlike_20 : decode b_T_nameAllUnlike 20 = .ok (.getfield 18, 3) := by decide +kernel
theorem d_T_nameAllUnlike_23 : decode b_T_nameAllUnlike 23 = .ok (.iload_n 2, 1) := by decide +kernel
theorem d_T_nameAllUnlike_24 : decode b_T_nameAllUnlike 24 = .ok (.aaload, 1) := by decide +kernel
theorem d_T_nameAllUnlike_25 : decode b_T_nameAllUnlike 25 = .ok (.getfield 230, 3) := by decide +kernel
theorem d_T_nameAllUnlike_28 : decode b_T_nameAllUnlike 28 = .ok (.iload_n 1, 1) := by decide +kernel
theorem d_T_nameAllUnlike_29 : decode b_T_nameAllUnlike 29 = .ok (.if_icmp .eq 12, 3) := by decide +kernel
theorem d_T_nameAllUnlike_32 : decode b_T_nameAllUnlike 32 = .ok (.aload_n 0, 1) := by decide +kernel
theorem d_T_nameAllUnlike_33 : decode b_T_nameAllUnlike 33 = .ok (.getfield 18, 3) := by decide +kernel
theorem d_T_nameAllUnlike_36 : decode b_T_nameAllUnlike 36 = .ok (.iload_n 2, 1) := by decide +kernel
theorem d_T_nameAllUnlike_37 : decode b_T_nameAllUnlike 37 = .ok (.aaload, 1) := by decide +kernel
theorem d_T_nameAllUnlike_38 : decode b_T_nameAllUnlike 38 = .ok (.invokevirtual 254, 3) := by decide +kernel
theorem d_T_nameAllUnlike_41 : decode b_T_nameAllUnlike 41 = .ok (.iinc 2 1, 3) := by decide +kernel
theorem d_T_nameAllUnlike_44 : decode b_T_nameAllUnlike 44 = .ok (.goto (-42), 3) := by decide +kernel
theorem d_T_nameAllUnlike_47 : decode b_T_nameAllUnlike 47 = .ok (.return_, 1) := by decide +kernel
theorem d_T_countBallots_0 : decode b_T_countBallots 0 = .ok (.iconst 0, 1) := by decide +kernel
theorem d_T_countBallots_1 : decode b_T_countBallots 1 = .ok (.istore_n 2, 1) := by decide +kernel
theorem d_T_countBallots_2 : decode b_T_countBallots 2 = .ok (.iconst 0, 1) := by decide +kernel
theorem d_T_countBallots_3 : decode b_T_countBallots 3 = .ok (.istore_n 3, 1) := by decide +kernel
theorem d_T_countBallots_4 : decode b_T_countBallots 4 = .ok (.iload_n 3, 1) := by decide +kernel
theorem d_T_countBallots_5 : decode b_T_countBallots 5 = .ok (.iconst 3, 1) := by decide +kernel
theorem d_T_countBallots_6 : decode b_T_countBallots 6 = .ok (.if_icmp .ge 37, 3) := by decide +kernel
theorem d_T_countBallots_9 : decode b_T_countBallots 9 = .ok (.aload_n 0, 1) := by decide +kernel
theorem d_T_countBallots_10 : decode b_T_countBallots 10 = .ok (.getfield 18, 3) := by decide +kernel
theorem d_T_countBallots_13 : decode b_T_countBallots 13 = .ok (.iload_n 3, 1) := by decide +kernel
theorem d_T_countBallots_14 : decode b_T_countBallots 14 = .ok (.aaload, 1) := by decide +kernel
theorem d_T_countBallots_15 : decode b_T_countBallots 15 = .ok (.invokevirtual 248, 3) := by decide +kernel
theorem d_T_countBallots_18 : decode b_T_countBallots 18 = .ok (.ifCond .eq 19, 3) := by decide +kernel
theorem d_T_countBallots_21 : decode b_T_countBallots 21 = .ok (.aload_n 0, 1) := by decide +kernel
theorem d_T_countBallots_22 : decode b_T_countBallots 22 = .ok (.getfield 18, 3) := by decide +kernel
theorem d_T_countBallots_25 : decode b_T_countBallots 25 = .ok (.iload_n 3, 1) := by decide +kernel
theorem d_T_countBallots_26 : decode b_T_countBallots 26 = .ok (.aaload, 1) := by decide +kernel
theorem d_T_countBallots_27 : decode b_T_countBallots 27 = .ok (.getfield 230, 3) := by decide +kernel
theorem d_T_countBallots_30 : decode b_T_countBallots 30 = .ok (.iload_n 1, 1) := by decide +kernel
theorem d_T_countBallots_31 : decode b_T_countBallots 31 = .ok (.if_icmp .ne 6, 3) := by decide +kernel
theorem d_T_countBallots_34 : decode b_T_countBallots 34 = .ok (.iinc 2 1, 3) := by decide +kernel
theorem d_T_countBallots_37 : decode b_T_countBallots 37 = .ok (.iinc 3 1, 3) := by decide +kernel
theorem d_T_countBallots_40 : decode b_T_countBallots 40 = .ok (.goto (-36), 3) := by decide +kernel
theorem d_T_countBallots_43 : decode b_T_countBallots 43 = .ok (.iload_n 2, 1) := by decide +kernel
theorem d_T_countBallots_44 : decode b_T_countBallots 44 = .ok (.ireturn, 1) := by decide +kernel
theorem d_T_countTrusted_0 : decode b_T_countTrusted 0 = .ok (.iconst 0, 1) := by decide +kernel
theorem d_T_countTrusted_1 : decode b_T_countTrusted 1 = .ok (.istore_n 1, 1) := by decide +kernel
theorem d_T_countTrusted_2 : decode b_T_countTrusted 2 = .ok (.iconst 0, 1) := by decide +kernel
theorem d_T_countTrusted_3 : decode b_T_countTrusted 3 = .ok (.istore_n 2, 1) := by decide +kernel
theorem d_T_countTrusted_4 : decode b_T_countTrusted 4 = .ok (.iload_n 2, 1) := by decide +kernel
theorem d_T_countTrusted_5 : decode b_T_countTrusted 5 = .ok (.iconst 3, 1) := by decide +kernel
theorem d_T_countTrusted_6 : decode b_T_countTrusted 6 = .ok (.if_icmp .ge 24, 3) := by decide +kernel
theorem d_T_countTrusted_9 : decode b_T_countTrusted 9 = .ok (.aload_n 0, 1) := by decide +kernel
theorem d_T_countTrusted_10 : decode b_T_countTrusted 10 = .ok (.getfield 18, 3) := by decide +kernel
theorem d_T_countTrusted_13 : decode b_T_countTrusted 13 = .ok (.iload_n 2, 1) := by decide +kernel
theorem d_T_countTrusted_14 : decode b_T_countTrusted 14 = .ok (.aaload, 1) := by decide +kernel
theorem d_T_countTrusted_15 : decode b_T_countTrusted 15 = .ok (.invokevirtual 248, 3) := by decide +kernel
theorem d_T_countTrusted_18 : decode b_T_countTrusted 18 = .ok (.ifCond .eq 6, 3) := by decide +kernel
theorem d_T_countTrusted_21 : decode b_T_countTrusted 21 = .ok (.iinc 1 1, 3) := by decide +kernel
theorem d_T_countTrusted_24 : decode b_T_countTrusted 24 = .ok (.iinc 2 1, 3) := by decide +kernel
theorem d_T_countTrusted_27 : decode b_T_countTrusted 27 = .ok (.goto (-23), 3) := by decide +kernel
theorem d_T_countTrusted_30 : decode b_T_countTrusted 30 = .ok (.iload_n 1, 1) := by decide +kernel
theorem d_T_countTrusted_31 : decode b_T_countTrusted 31 = .ok (.ireturn, 1) := by decide +kernel
theorem d_T_lowestTrusted_0 : decode b_T_lowestTrusted 0 = .ok (.iconst 0, 1) := by decide +kernel
theorem d_T_lowestTrusted_1 : decode b_T_lowestTrusted 1 = .ok (.istore_n 1, 1) := by decide +kernel
theorem d_T_lowestTrusted_2 : decode b_T_lowestTrusted 2 = .ok (.iload_n 1, 1) := by decide +kernel
theorem d_T_lowestTrusted_3 : decode b_T_lowestTrusted 3 = .ok (.iconst 3, 1) := by decide +kernel
theorem d_T_lowestTrusted_4 : decode b_T_lowestTrusted 4 = .ok (.if_icmp .ge 23, 3) := by decide +kernel
theorem d_T_lowestTrusted_7 : decode b_T_lowestTrusted 7 = .ok (.aload_n 0, 1) := by decide +kernel
theorem d_T_lowestTrusted_8 : decode b_T_lowestTrusted 8 = .ok (.getfield 18, 3) := by decide +kernel
theorem d_T_lowestTrusted_11 : decode b_T_lowestTrusted 11 = .ok (.iload_n 1, 1) := by decide +kernel
theorem d_T_lowestTrusted_12 : decode b_T_lowestTrusted 12 = .ok (.aaload, 1) := by decide +kernel
theorem d_T_lowestTrusted_13 : decode b_T_lowestTrusted 13 = .ok (.invokevirtual 248, 3) := by decide +kernel
theorem d_T_lowestTrusted_16 : decode b_T_lowestTrusted 16 = .ok (.ifCond .eq 5, 3) := by decide +kernel
theorem d_T_lowestTrusted_19 : decode b_T_lowestTrusted 19 = .ok (.iload_n 1, 1) := by decide +kernel
theorem d_T_lowestTrusted_20 : decode b_T_lowestTrusted 20 = .ok (.ireturn, 1) := by decide +kernel
theorem d_T_lowestTrusted_21 : decode b_T_lowestTrusted 21 = .ok (.iinc 1 1, 3) := by decide +kernel
theorem d_T_lowestTrusted_24 : decode b_T_lowestTrusted 24 = .ok (.goto (-22), 3) := by decide +kernel
theorem d_T_lowestTrusted_27 : decode b_T_lowestTrusted 27 = .ok (.iconst (-1), 1) := by decide +kernel
theorem d_T_lowestTrusted_28 : decode b_T_lowestTrusted 28 = .ok (.ireturn, 1) := by decide +kernel
theorem d_T_doWhatIsAgreed_0 : decode b_T_doWhatIsAgreed 0 = .ok (.iconst 0, 1) := by decide +kernel
theorem d_T_doWhatIsAgreed_1 : decode b_T_doWhatIsAgreed 1 = .ok (.istore_n 2, 1) := by decide +kernel
theorem d_T_doWhatIsAgreed_2 : decode b_T_doWhatIsAgreed 2 = .ok (.aload_n 1, 1) := by decide +kernel
theorem d_T_doWhatIsAgreed_3 : decode b_T_doWhatIsAgreed 3 = .ok (.getfield 257, 3) := by decide +kernel
theorem d_T_doWhatIsAgreed_6 : decode b_T_doWhatIsAgreed 6 = .ok (.iconst 1, 1) := by decide +kernel
theorem d_T_doWhatIsAgreed_7 : decode b_T_doWhatIsAgreed 7 = .ok (.if_icmp .ne 11, 3) := by decide +kernel
theorem d_T_doWhatIsAgreed_10 : decode b_T_doWhatIsAgreed 10 = .ok (.aload_n 0, 1) := by decide +kernel
theorem d_T_doWhatIsAgreed_11 : decode b_T_doWhatIsAgreed 11 = .ok (.invokevirtual 262, 3) := by decide +kernel
theorem d_T_doWhatIsAgreed_14 : decode b_T_doWhatIsAgreed 14 = .ok (.istore_n 2, 1) := by decide +kernel
theorem d_T_doWhatIsAgreed_15 : decode b_T_doWhatIsAgreed 15 = .ok (.goto 22, 3) := by decide +kernel
theorem d_T_doWhatIsAgreed_18 : decode b_T_doWhatIsAgreed 18 = .ok (.aload_n 1, 1) := by decide +kernel
theorem d_T_doWhatIsAgreed_19 : decode b_T_doWhatIsAgreed 19 = .ok (.getfield 257, 3) := by decide +kernel
theorem d_T_doWhatIsAgreed_22 : decode b_T_doWhatIsAgreed 22 = .ok (.iconst 2, 1) := by decide +kernel
theorem d_T_doWhatIsAgreed_23 : decode b_T_doWhatIsAgreed 23 = .ok (.if_icmp .ne 14, 3) := by decide +kernel
theorem d_T_doWhatIsAgreed_26 : decode b_T_doWhatIsAgreed 26 = .ok (.aload_n 0, 1) := by decide +kernel
theorem d_T_doWhatIsAgreed_27 : decode b_T_doWhatIsAgreed 27 = .ok (.getfield 39, 3) := by decide +kernel
theorem d_T_doWhatIsAgreed_30 : decode b_T_doWhatIsAgreed 30 = .ok (.aload_n 1, 1) := by decide +kernel
theorem d_T_doWhatIsAgreed_31 : decode b_T_doWhatIsAgreed 31 = .ok (.getfield 265, 3) := by decide +kernel
theorem d_T_doWhatIsAgreed_34 : decode b_T_doWhatIsAgreed 34 = .ok (.invokevirtual 268, 3) := by decide +kernel
theorem d_T_doWhatIsAgreed_37 : decode b_T_doWhatIsAgreed 37 = .ok (.iconst 0, 1) := by decide +kernel
theorem d_T_doWhatIsAgreed_38 : decode b_T_doWhatIsAgreed 38 = .ok (.istore_n 3, 1) := by decide +kernel
theorem d_T_doWhatIsAgreed_39 : decode b_T_doWhatIsAgreed 39 = .ok (.iload_n 3, 1) := by decide +kernel
theorem d_T_doWhatIsAgreed_40 : decode b_T_doWhatIsAgreed 40 = .ok (.iconst 3, 1) := by decide +kernel
theorem d_T_doWhatIsAgreed_41 : decode b_T_doWhatIsAgreed 41 = .ok (.if_icmp .ge 31, 3) := by decide +kernel
theorem d_T_doWhatIsAgreed_44 : decode b_T_doWhatIsAgreed 44 = .ok (.aload_n 0, 1) := by decide +kernel
theorem d_T_doWhatIsAgreed_45 : decode b_T_doWhatIsAgreed 45 = .ok (.getfield 18, 3) := by decide +kernel
theorem d_T_doWhatIsAgreed_48 : decode b_T_doWhatIsAgreed 48 = .ok (.iload_n 3, 1) := by decide +kernel
theorem d_T_doWhatIsAgreed_49 : decode b_T_doWhatIsAgreed 49 = .ok (.aaload, 1) := by decide +kernel
theorem d_T_doWhatIsAgreed_50 : decode b_T_doWhatIsAgreed 50 = .ok (.getfield 151, 3) := by decide +kernel
theorem d_T_doWhatIsAgreed_53 : decode b_T_doWhatIsAgreed 53 = .ok (.ifCond .ne 13, 3) := by decide +kernel
theorem d_T_doWhatIsAgreed_56 : decode b_T_doWhatIsAgreed 56 = .ok (.aload_n 0, 1) := by decide +kernel
theorem d_T_doWhatIsAgreed_57 : decode b_T_doWhatIsAgreed 57 = .ok (.getfield 18, 3) := by decide +kernel
theorem d_T_doWhatIsAgreed_60 : decode b_T_doWhatIsAgreed 60 = .ok (.iload_n 3, 1) := by decide +kernel
theorem d_T_doWhatIsAgreed_61 : decode b_T_doWhatIsAgreed 61 = .ok (.aaload, 1) := by decide +kernel
theorem d_T_doWhatIsAgreed_62 : decode b_T_doWhatIsAgreed 62 = .ok (.iload_n 2, 1) := by decide +kernel
theorem d_T_doWhatIsAgreed_63 : decode b_T_doWhatIsAgreed 63 = .ok (.invokevirtual 270, 3) := by decide +kernel
theorem d_T_doWhatIsAgreed_66 : decode b_T_doWhatIsAgreed 66 = .ok (.iinc 3 1, 3) := by decide +kernel
theorem d_T_doWhatIsAgreed_69 : decode b_T_doWhatIsAgreed 69 = .ok (.goto (-30), 3) := by decide +kernel
theorem d_T_doWhatIsAgreed_72 : decode b_T_doWhatIsAgreed 72 = .ok (.return_, 1) := by decide +kernel
theorem d_T_takeWord_0 : decode b_T_takeWord 0 = .ok (.aload_n 0, 1) := by decide +kernel
theorem d_T_takeWord_1 : decode b_T_takeWord 1 = .ok (.getfield 32, 3) := by decide +kernel
theorem d_T_takeWord_4 : decode b_T_takeWord 4 = .ok (.aload_n 0, 1) := by decide +kernel
theorem d_T_takeWord_5 : decode b_T_takeWord 5 = .ok (.getfield 66, 3) := by decide +kernel
theorem d_T_takeWord_8 : decode b_T_takeWord 8 = .ok (.invokevirtual 273, 3) := by decide +kernel
theorem d_T_takeWord_11 : decode b_T_takeWord 11 = .ok (.istore_n 1, 1) := by decide +kernel
theorem d_T_takeWord_12 : decode b_T_takeWord 12 = .ok (.aload_n 0, 1) := by decide +kernel
theorem d_T_takeWord_13 : decode b_T_takeWord 13 = .ok (.getfield 66, 3) := by decide +kernel
theorem d_T_takeWord_16 : decode b_T_takeWord 16 = .ok (.aload_n 0, 1) := by decide +kernel
theorem d_T_takeWord_17 : decode b_T_takeWord 17 = .ok (.getfield 32, 3) := by decide +kernel
theorem d_T_takeWord_20 : decode b_T_takeWord 20 = .ok (.getfield 175, 3) := by decide +kernel
theorem d_T_takeWord_23 : decode b_T_takeWord 23 = .ok (.if_icmp .ge 13, 3) := by decide +kernel
theorem d_T_takeWord_26 : decode b_T_takeWord 26 = .ok (.aload_n 0, 1) := by decide +kernel
theorem d_T_takeWord_27 : decode b_T_takeWord 27 = .ok (.dup, 1) := by decide +kernel
theorem d_T_takeWord_28 : decode b_T_takeWord 28 = .ok (.getfield 66, 3) := by decide +kernel
theorem d_T_takeWord_31 : decode b_T_takeWord 31 = .ok (.iconst 1, 1) := by decide +kernel
theorem d_T_takeWord_32 : decode b_T_takeWord 32 = .ok (.iadd, 1) := by decide +kernel
theorem d_T_takeWord_33 : decode b_T_takeWord 33 = .ok (.putfield 66, 3) := by decide +kernel
theorem d_T_takeWord_36 : decode b_T_takeWord 36 = .ok (.iload_n 1, 1) := by decide +kernel
theorem d_T_takeWord_37 : decode b_T_takeWord 37 = .ok (.ireturn, 1) := by decide +kernel
theorem d_T_storeInCopies_0 : decode b_T_storeInCopies 0 = .ok (.aload_n 0, 1) := by decide +kernel
theorem d_T_storeInCopies_1 : decode b_T_storeInCopies 1 = .ok (.invokevirtual 224, 3) := by decide +kernel
theorem d_T_storeInCopies_4 : decode b_T_storeInCopies 4 = .ok (.istore_n 1, 1) := by decide +kernel
theorem d_T_storeInCopies_5 : decode b_T_storeInCopies 5 = .ok (.iload_n 1, 1) := by decide +kernel
theorem d_T_storeInCopies_6 : decode b_T_storeInCopies 6 = .ok (.iconst (-1), 1) := by decide +kernel
theorem d_T_storeInCopies_7 : decode b_T_storeInCopies 7 = .ok (.if_icmp .eq 16, 3) := by decide +kernel
theorem d_T_storeInCopies_10 : decode b_T_storeInCopies 10 = .ok (.aload_n 0, 1) := by decide +kernel
theorem d_T_storeInCopies_11 : decode b_T_storeInCopies 11 = .ok (.getfield 18, 3) := by decide +kernel
theorem d_T_storeInCopies_14 : decode b_T_storeInCopies 14 = .ok (.iload_n 1, 1) := by decide +kernel
theorem d_T_storeInCopies_15 : decode b_T_storeInCopies 15 = .ok (.aaload, 1) := by decide +kernel
theorem d_T_storeInCopies_16 : decode b_T_storeInCopies 16 = .ok (.getfield 276, 3) := by decide +kernel
theorem d_T_storeInCopies_19 : decode b_T_storeInCopies 19 = .ok (.iconst (-1), 1) := by decide +kernel
theorem d_T_storeInCopies_20 : decode b_T_storeInCopies 20 = .ok (.if_icmp .ne 4, 3) := by decide +kernel
theorem d_T_storeInCopies_23 : decode b_T_storeInCopies 23 = .ok (.return_, 1) := by decide +kernel
theorem d_T_storeInCopies_24 : decode b_T_storeInCopies 24 = .ok (.aload_n 0, 1) := by decide +kernel
theorem d_T_storeInCopies_25 : decode b_T_storeInCopies 25 = .ok (.getfield 18, 3) := by decide +kernel
theorem d_T_storeInCopies_28 : decode b_T_storeInCopies 28 = .ok (.iload_n 1, 1) := by decide +kernel
theorem d_T_storeInCopies_29 : decode b_T_storeInCopies 29 = .ok (.aaload, 1) := by decide +kernel
theorem d_T_storeInCopies_30 : decode b_T_storeInCopies 30 = .ok (.getfield 276, 3) := by decide +kernel
theorem d_T_storeInCopies_33 : decode b_T_storeInCopies 33 = .ok (.istore_n 2, 1) := by decide +kernel
theorem d_T_storeInCopies_34 : decode b_T_storeInCopies 34 = .ok (.iconst 0, 1) := by decide +kernel
theorem d_T_storeInCopies_35 : decode b_T_storeInCopies 35 = .ok (.istore_n 3, 1) := by decide +kernel
theorem d_T_storeInCopies_36 : decode b_T_storeInCopies 36 = .ok (.iload_n 3, 1) := by decide +kernel
theorem d_T_storeInCopies_37 : decode b_T_storeInCopies 37 = .ok (.iconst 3, 1) := by decide +kernel
theorem d_T_storeInCopies_38 : decode b_T_storeInCopies 38 = .ok (.if_icmp .ge 54, 3) := by decide +kernel
theorem d_T_storeInCopies_41 : decode b_T_storeInCopies 41 = .ok (.aload_n 0, 1) := by decide +kernel
theorem d_T_storeInCopies_42 : decode b_T_storeInCopies 42 = .ok (.getfield 18, 3) := by decide +kernel
theorem d_T_storeInCopies_45 : decode b_T_storeInCopies 45 = .ok (.iload_n 3, 1) := by decide +kernel
theorem d_T_storeInCopies_46 : decode b_T_storeInCopies 46 = .ok (.aaload, 1) := by decide +kernel
theorem d_T_storeInCopies_47 : decode b_T_storeInCopies 47 = .ok (.getfield 151, 3) := by decide +kernel
theorem d_T_storeInCopies_50 : decode b_T_storeInCopies 50 = .ok (.iconst 1, 1) := by decide +kernel
theorem d_T_storeInCopies_51 : decode b_T_storeInCopies 51 = .ok (.if_icmp .ne 35, 3) := by decide +kernel
theorem d_T_storeInCopies_54 : decode b_T_storeInCopies 54 = .ok (.iload_n 2, 1) := by decide +kernel
theorem d_T_storeInCopies_55 : decode b_T_storeInCopies 55 = .ok (.aload_n 0, 1) := by decide +kernel
theorem d_T_storeInCopies_56 : decode b_T_storeInCopies 56 = .ok (.getfield 18, 3) := by decide +kernel
theorem d_T_storeInCopies_59 : decode b_T_storeInCopies 59 = .ok (.iload_n 3, 1) := by decide +kernel
theorem d_T_storeInCopies_60 : decode b_T_storeInCopies 60 = .ok (.aaload, 1) := by decide +kernel
theorem d_T_storeInCopies_61 : decode b_T_storeInCopies 61 = .ok (.getfield 279, 3) := by decide +kernel
theorem d_T_storeInCopies_64 : decode b_T_storeInCopies 64 = .ok (.if_icmp .ge 22, 3) := by decide +kernel
theorem d_T_storeInCopies_67 : decode b_T_storeInCopies 67 = .ok (.aload_n 0, 1) := by decide +kernel
theorem d_T_storeInCopies_68 : decode b_T_storeInCopies 68 = .ok (.getfield 18, 3) := by decide +kernel
theorem d_T_storeInCopies_71 : decode b_T_storeInCopies 71 = .ok (.iload_n 3, 1) := by decide +kernel
theorem d_T_storeInCopies_72 : decode b_T_storeInCopies 72 = .ok (.aaload, 1) := by decide +kernel
theorem d_T_storeInCopies_73 : decode b_T_storeInCopies 73 = .ok (.iload_n 2, 1) := by decide +kernel
theorem d_T_storeInCopies_74 : decode b_T_storeInCopies 74 = .ok (.aload_n 0, 1) := by decide +kernel
theorem d_T_storeInCopies_75 : decode b_T_storeInCopies 75 = .ok (.getfield 18, 3) := by decide +kernel
theorem d_T_storeInCopies_78 : decode b_T_storeInCopies 78 = .ok (.iload_n 1, 1) := by decide +kernel
theorem d_T_storeInCopies_79 : decode b_T_storeInCopies 79 = .ok (.aaload, 1) := by decide +kernel
theorem d_T_storeInCopies_80 : decode b_T_storeInCopies 80 = .ok (.getfield 282, 3) := by decide +kernel
theorem d_T_storeInCopies_83 : decode b_T_storeInCopies 83 = .ok (.invokevirtual 285, 3) := by decide +kernel
theorem d_T_storeInCopies_86 : decode b_T_storeInCopies 86 = .ok (.iinc 3 1, 3) := by decide +kernel
theorem d_T_storeInCopies_89 : decode b_T_storeInCopies 89 = .ok (.goto (-53), 3) := by decide +kernel
theorem d_T_storeInCopies_92 : decode b_T_storeInCopies 92 = .ok (.return_, 1) := by decide +kernel
theorem d_T_scrub_0 : decode b_T_scrub 0 = .ok (.aload_n 0, 1) := by decide +kernel
theorem d_T_scrub_1 : decode b_T_scrub 1 = .ok (.getfield 70, 3) := by decide +kernel
theorem d_T_scrub_4 : decode b_T_scrub 4 = .ok (.bipush 32, 2) := by decide +kernel
theorem d_T_scrub_6 : decode b_T_scrub 6 = .ok (.irem, 1) := by decide +kernel
theorem d_T_scrub_7 : decode b_T_scrub 7 = .ok (.istore_n 1, 1) := by decide +kernel
theorem d_T_scrub_8 : decode b_T_scrub 8 = .ok (.iconst 0, 1) := by decide +kernel
theorem d_T_scrub_9 : decode b_T_scrub 9 = .ok (.istore_n 2, 1) := by decide +kernel
theorem d_T_scrub_10 : decode b_T_scrub 10 = .ok (.iconst 0, 1) := by decide +kernel
theorem d_T_scrub_11 : decode b_T_scrub 11 = .ok (.istore_n 3, 1) := by decide +kernel
theorem d_T_scrub_12 : decode b_T_scrub 12 = .ok (.iload_n 3, 1) := by decide +kernel
theorem d_T_scrub_13 : decode b_T_scrub 13 = .ok (.iconst 3, 1) := by decide +kernel
theorem d_T_scrub_14 : decode b_T_scrub 14 = .ok (.if_icmp .ge 63, 3) := by decide +kernel
theorem d_T_scrub_17 : decode b_T_scrub 17 = .ok (.aload_n 0, 1) := by decide +kernel
theorem d_T_scrub_18 : decode b_T_scrub 18 = .ok (.getfield 18, 3) := by decide +kernel
theorem d_T_scrub_21 : decode b_T_scrub 21 = .ok (.iload_n 3, 1) := by decide +kernel
theorem d_T_scrub_22 : decode b_T_scrub 22 = .ok (.aaload, 1) := by decide +kernel
theorem d_T_scrub_23 : decode b_T_scrub 23 = .ok (.aload_n 0, 1) := by decide +kernel
theorem d_T_scrub_24 : decode b_T_scrub 24 = .ok (.getfield 18, 3) := by decide +kernel
theorem d_T_scrub_27 : decode b_T_scrub 27 = .ok (.iload_n 3, 1) := by decide +kernel
theorem d_T_scrub_28 : decode b_T_scrub 28 = .ok (.aaload, 1) := by decide +kernel
theorem d_T_scrub_29 : decode b_T_scrub 29 = .ok (.invokevirtual 248, 3) := by decide +kernel
theorem d_T_scrub_32 : decode b_T_scrub 32 = .ok (.ifCond .eq 20, 3) := by decide +kernel
theorem d_T_scrub_35 : decode b_T_scrub 35 = .ok (.aload_n 0, 1) := by decide +kernel
theorem d_T_scrub_36 : decode b_T_scrub 36 = .ok (.getfield 18, 3) := by decide +kernel
theorem d_T_scrub_39 : decode b_T_scrub 39 = .ok (.iload_n 3, 1) := by decide +kernel
theorem d_T_scrub_40 : decode b_T_scrub 40 = .ok (.aaload, 1) := by decide +kernel
theorem d_T_scrub_41 : decode b_T_scrub 41 = .ok (.iload_n 1, 1) := by decide +kernel
theorem d_T_scrub_42 : decode b_T_scrub 42 = .ok (.invokevirtual 289, 3) := by decide +kernel
theorem d_T_scrub_45 : decode b_T_scrub 45 = .ok (.ifCond .eq 7, 3) := by decide +kernel
theorem d_T_scrub_48 : decode b_T_scrub 48 = .ok (.iconst 1, 1) := by decide +kernel
theorem d_T_scrub_49 : decode b_T_scrub 49 = .ok (.goto 4, 3) := by decide +kernel
theorem d_T_scrub_52 : decode b_T_scrub 52 = .ok (.iconst 0, 1) := by decide +kernel
theorem d_T_scrub_53 : decode b_T_scrub 53 = .ok (.putfield 292, 3) := by decide +kernel
theorem d_T_scrub_56 : decode b_T_scrub 56 = .ok (.aload_n 0, 1) := by decide +kernel
theorem d_T_scrub_57 : decode b_T_scrub 57 = .ok (.getfield 18, 3) := by decide +kernel
theorem d_T_scrub_60 : decode b_T_scrub 60 = .ok (.iload_n 3, 1) := by decide +kernel
theorem d_T_scrub_61 : decode b_T_scrub 61 = .ok (.aaload, 1) := by decide +kernel
theorem d_T_scrub_62 : decode b_T_scrub 62 = .ok (.getfield 292, 3) := by decide +kernel
theorem d_T_scrub_65 : decode b_T_scrub 65 = .ok (.ifCond .eq 6, 3) := by decide +kernel
theorem d_T_scrub_68 : decode b_T_scrub 68 = .ok (.iinc 2 1, 3) := by decide +kernel
theorem d_T_scrub_71 : decode b_T_scrub 71 = .ok (.iinc 3 1, 3) := by decide +kernel
theorem d_T_scrub_74 : decode b_T_scrub 74 = .ok (.goto (-62), 3) := by decide +kernel
theorem d_T_scrub_77 : decode b_T_scrub 77 = .ok (.iload_n 2, 1) := by decide +kernel
theorem d_T_scrub_78 : decode b_T_scrub 78 = .ok (.aload_n 0, 1) := by decide +kernel
theorem d_T_scrub_79 : decode b_T_scrub 79 = .ok (.invokevirtual 236, 3) := by decide +kernel
theorem d_T_scrub_82 : decode b_T_scrub 82 = .ok (.if_icmp .ne 5, 3) := by decide +kernel
theorem d_T_scrub_85 : decode b_T_scrub 85 = .ok (.iconst 0, 1) := by decide +kernel
theorem d_T_scrub_86 : decode b_T_scrub 86 = .ok (.ireturn, 1) := by decide +kernel
theorem d_T_scrub_87 : decode b_T_scrub 87 = .ok (.iconst 0, 1) := by decide +kernel
theorem d_T_scrub_88 : decode b_T_scrub 88 = .ok (.istore_n 3, 1) := by decide +kernel
theorem d_T_scrub_89 : decode b_T_scrub 89 = .ok (.iload_n 3, 1) := by decide +kernel
theorem d_T_scrub_90 : decode b_T_scrub 90 = .ok (.iconst 3, 1) := by decide +kernel
theorem d_T_scrub_91 : decode b_T_scrub 91 = .ok (.if_icmp .ge 30, 3) := by decide +kernel
theorem d_T_scrub_94 : decode b_T_scrub 94 = .ok (.aload_n 0, 1) := by decide +kernel
theorem d_T_scrub_95 : decode b_T_scrub 95 = .ok (.getfield 18, 3) := by decide +kernel
theorem d_T_scrub_98 : decode b_T_scrub 98 = .ok (.iload_n 3, 1) := by decide +kernel
theorem d_T_scrub_99 : decode b_T_scrub 99 = .ok (.aaload, 1) := by decide +kernel
theorem d_T_scrub_100 : decode b_T_scrub 100 = .ok (.getfield 292, 3) := by decide +kernel
theorem d_T_scrub_103 : decode b_T_scrub 103 = .ok (.ifCond .eq 12, 3) := by decide +kernel
theorem d_T_scrub_106 : decode b_T_scrub 106 = .ok (.aload_n 0, 1) := by decide +kernel
theorem d_T_scrub_107 : decode b_T_scrub 107 = .ok (.getfield 18, 3) := by decide +kernel
theorem d_T_scrub_110 : decode b_T_scrub 110 = .ok (.iload_n 3, 1) := by decide +kernel
theorem d_T_scrub_111 : decode b_T_scrub 111 = .ok (.aaload, 1) := by decide +kernel
theorem d_T_scrub_112 : decode b_T_scrub 112 = .ok (.invokevirtual 254, 3) := by decide +kernel
theorem d_T_scrub_115 : decode b_T_scrub 115 = .ok (.iinc 3 1, 3) := by decide +kernel
theorem d_T_scrub_118 : decode b_T_scrub 118 = .ok (.goto (-29), 3) := by decide +kernel
theorem d_T_scrub_121 : decode b_T_scrub 121 = .ok (.iconst 1, 1) := by decide +kernel
theorem d_T_scrub_122 : decode b_T_scrub 122 = .ok (.ireturn, 1) := by decide +kernel
theorem d_T_compareDigests_0 : decode b_T_compareDigests 0 = .ok (.aload_n 0, 1) := by decide +kernel
theorem d_T_compareDigests_1 : decode b_T_compareDigests 1 = .ok (.invokevirtual 224, 3) := by decide +kernel
theorem d_T_compareDigests_4 : decode b_T_compareDigests 4 = .ok (.istore_n 1, 1) := by decide +kernel
theorem d_T_compareDigests_5 : decode b_T_compareDigests 5 = .ok (.aload_n 0, 1) := by decide +kernel
theorem d_T_compareDigests_6 : decode b_T_compareDigests 6 = .ok (.getfield 70, 3) := by decide +kernel
theorem d_T_compareDigests_9 : decode b_T_compareDigests 9 = .ok (.bipush 16, 2) := by decide +kernel
theorem d_T_compareDigests_11 : decode b_T_compareDigests 11 = .ok (.irem, 1) := by decide +kernel
theorem d_T_compareDigests_12 : decode b_T_compareDigests 12 = .ok (.ifCond .ne 8, 3) := by decide +kernel
theorem d_T_compareDigests_15 : decode b_T_compareDigests 15 = .ok (.iload_n 1, 1) := by decide +kernel
theorem d_T_compareDigests_16 : decode b_T_compareDigests 16 = .ok (.iconst (-1), 1) := by decide +kernel
theorem d_T_compareDigests_17 : decode b_T_compareDigests 17 = .ok (.if_icmp .ne 5, 3) := by decide +kernel
theorem d_T_compareDigests_20 : decode b_T_compareDigests 20 = .ok (.iconst 1, 1) := by decide +kernel
theorem d_T_compareDigests_21 : decode b_T_compareDigests 21 = .ok (.ireturn, 1) := by decide +kernel
theorem d_T_compareDigests_22 : decode b_T_compareDigests 22 = .ok (.iconst 0, 1) := by decide +kernel
theorem d_T_compareDigests_23 : decode b_T_compareDigests 23 = .ok (.istore_n 2, 1) := by decide +kernel
theorem d_T_compareDigests_24 : decode b_T_compareDigests 24 = .ok (.iload_n 2, 1) := by decide +kernel
theorem d_T_compareDigests_25 : decode b_T_compareDigests 25 = .ok (.iconst 3, 1) := by decide +kernel
theorem d_T_compareDigests_26 : decode b_T_compareDigests 26 = .ok (.if_icmp .ge 27, 3) := by decide +kernel
theorem d_T_compareDigests_29 : decode b_T_compareDigests 29 = .ok (.aload_n 0, 1) := by decide +kernel
theorem d_T_compareDigests_30 : decode b_T_compareDigests 30 = .ok (.getfield 18, 3) := by decide +kernel
theorem d_T_compareDigests_33 : decode b_T_compareDigests 33 = .ok (.iload_n 2, 1) := by decide +kernel
theorem d_T_compareDigests_34 : decode b_T_compareDigests 34 = .ok (.aaload, 1) := by decide +kernel
theorem d_T_compareDigests_35 : decode b_T_compareDigests 35 = .ok (.aload_n 0, 1) := by decide +kernel
theorem d_T_compareDigests_36 : decode b_T_compareDigests 36 = .ok (.getfield 18, 3) := by decide +kernel
theorem d_T_compareDigests_39 : decode b_T_compareDigests 39 = .ok (.iload_n 2, 1) := by decide +kernel
theorem d_T_compareDigests_40 : decode b_T_compareDigests 40 = .ok (.aaload, 1) := by decide +kernel
theorem d_T_compareDigests_41 : decode b_T_compareDigests 41 = .ok (.invokevirtual 295, 3) := by decide +kernel
theorem d_T_compareDigests_44 : decode b_T_compareDigests 44 = .ok (.putfield 230, 3) := by decide +kernel
theorem d_T_compareDigests_47 : decode b_T_compareDigests 47 = .ok (.iinc 2 1, 3) := by decide +kernel
theorem d_T_compareDigests_50 : decode b_T_compareDigests 50 = .ok (.goto (-26), 3) := by decide +kernel
theorem d_T_compareDigests_53 : decode b_T_compareDigests 53 = .ok (.aload_n 0, 1) := by decide +kernel
theorem d_T_compareDigests_54 : decode b_T_compareDigests 54 = .ok (.aload_n 0, 1) := by decide +kernel
theorem d_T_compareDigests_55 : decode b_T_compareDigests 55 = .ok (.getfield 18, 3) := by decide +kernel
theorem d_T_compareDigests_58 : decode b_T_compareDigests 58 = .ok (.iload_n 1, 1) := by decide +kernel
theorem d_T_compareDigests_59 : decode b_T_compareDigests 59 = .ok (.aaload, 1) := by decide +kernel
theorem d_T_compareDigests_60 : decode b_T_compareDigests 60 = .ok (.getfield 230, 3) := by decide +kernel
theorem d_T_compareDigests_63 : decode b_T_compareDigests 63 = .ok (.invokevirtual 233, 3) := by decide +kernel
theorem d_T_compareDigests_66 : decode b_T_compareDigests 66 = .ok (.aload_n 0, 1) := by decide +kernel
theorem d_T_compareDigests_67 : decode b_T_compareDigests 67 = .ok (.invokevirtual 236, 3) := by decide +kernel
theorem d_T_compareDigests_70 : decode b_T_compareDigests 70 = .ok (.if_icmp .ne 5, 3) := by decide +kernel
theorem d_T_compareDigests_73 : decode b_T_compareDigests 73 = .ok (.iconst 1, 1) := by decide +kernel
theorem d_T_compareDigests_74 : decode b_T_compareDigests 74 = .ok (.ireturn, 1) := by decide +kernel
theorem d_T_compareDigests_75 : decode b_T_compareDigests 75 = .ok (.aload_n 0, 1) := by decide +kernel
theorem d_T_compareDigests_76 : decode b_T_compareDigests 76 = .ok (.invokevirtual 239, 3) := by decide +kernel
theorem d_T_compareDigests_79 : decode b_T_compareDigests 79 = .ok (.istore_n 2, 1) := by decide +kernel
theorem d_T_compareDigests_80 : decode b_T_compareDigests 80 = .ok (.iload_n 2, 1) := by decide +kernel
theorem d_T_compareDigests_81 : decode b_T_compareDigests 81 = .ok (.iconst (-1), 1) := by decide +kernel
theorem d_T_compareDigests_82 : decode b_T_compareDigests 82 = .ok (.if_icmp .ne 5, 3) := by decide +kernel
theorem d_T_compareDigests_85 : decode b_T_compareDigests 85 = .ok (.iconst 0, 1) := by decide +kernel
theorem d_T_compareDigests_86 : decode b_T_compareDigests 86 = .ok (.ireturn, 1) := by decide +kernel
theorem d_T_compareDigests_87 : decode b_T_compareDigests 87 = .ok (.aload_n 0, 1) := by decide +kernel
theorem d_T_compareDigests_88 : decode b_T_compareDigests 88 = .ok (.aload_n 0, 1) := by decide +kernel
theorem d_T_compareDigests_89 : decode b_T_compareDigests 89 = .ok (.getfield 18, 3) := by decide +kernel
theorem d_T_compareDigests_92 : decode b_T_compareDigests 92 = .ok (.iload_n 2, 1) := by decide +kernel
theorem d_T_compareDigests_93 : decode b_T_compareDigests 93 = .ok (.aaload, 1) := by decide +kernel
theorem d_T_compareDigests_94 : decode b_T_compareDigests 94 = .ok (.getfield 230, 3) := by decide +kernel
theorem d_T_compareDigests_97 : decode b_T_compareDigests 97 = .ok (.invokevirtual 245, 3) := by decide +kernel
theorem d_T_compareDigests_100 : decode b_T_compareDigests 100 = .ok (.iconst 1, 1) := by decide +kernel
theorem d_T_compareDigests_101 : decode b_T_compareDigests 101 = .ok (.ireturn, 1) := by decide +kernel
theorem d_T_blameNamed_0 : decode b_T_blameNamed 0 = .ok (.iconst 0, 1) := by decide +kernel
theorem d_T_blameNamed_1 : decode b_T_blameNamed 1 = .ok (.istore_n 1, 1) := by decide +kernel
theorem d_T_blameNamed_2 : decode b_T_blameNamed 2 = .ok (.iload_n 1, 1) := by decide +kernel
theorem d_T_blameNamed_3 : decode b_T_blameNamed 3 = .ok (.iconst 3, 1) := by decide +kernel
theorem d_T_blameNamed_4 : decode b_T_blameNamed 4 = .ok (.if_icmp .ge 30, 3) := by decide +kernel
theorem d_T_blameNamed_7 : decode b_T_blameNamed 7 = .ok (.aload_n 0, 1) := by decide +kernel
theorem d_T_blameNamed_8 : decode b_T_blameNamed 8 = .ok (.getfield 18, 3) := by decide +kernel
theorem d_T_blameNamed_11 : decode b_T_blameNamed 11 = .ok (.iload_n 1, 1) := by decide +kernel
theorem d_T_blameNamed_12 : decode b_T_blameNamed 12 = .ok (.aaload, 1) := by decide +kernel
theorem d_T_blameNamed_13 : decode b_T_blameNamed 13 = .ok (.getfield 298, 3) := by decide +kernel
theorem d_T_blameNamed_16 : decode b_T_blameNamed 16 = .ok (.ifCond .eq 12, 3) := by decide +kernel
theorem d_T_blameNamed_19 : decode b_T_blameNamed 19 = .ok (.aload_n 0, 1) := by decide +kernel
theorem d_T_blameNamed_20 : decode b_T_blameNamed 20 = .ok (.getfield 18, 3) := by decide +kernel
theorem d_T_blameNamed_23 : decode b_T_blameNamed 23 = .ok (.iload_n 1, 1) := by decide +kernel
theorem d_T_blameNamed_24 : decode b_T_blameNamed 24 = .ok (.aaload, 1) := by decide +kernel
theorem d_T_blameNamed_25 : decode b_T_blameNamed 25 = .ok (.invokevirtual 301, 3) := by decide +kernel
theorem d_T_blameNamed_28 : decode b_T_blameNamed 28 = .ok (.iinc 1 1, 3) := by decide +kernel
theorem d_T_blameNamed_31 : decode b_T_blameNamed 31 = .ok (.goto (-29), 3) := by decide +kernel
theorem d_T_blameNamed_34 : decode b_T_blameNamed 34 = .ok (.aload_n 0, 1) := by decide +kernel
theorem d_T_blameNamed_35 : decode b_T_blameNamed 35 = .ok (.aload_n 0, 1) := by decide +kernel
theorem d_T_blameNamed_36 : decode b_T_blameNamed 36 = .ok (.invokevirtual 147, 3) := by decide +kernel
theorem d_T_blameNamed_39 : decode b_T_blameNamed 39 = .ok (.invokevirtual 154, 3) := by decide +kernel
theorem d_T_blameNamed_42 : decode b_T_blameNamed 42 = .ok (.ireturn, 1) := by decide +kernel
theorem d_T_copyOn_0 : decode b_T_copyOn 0 = .ok (.aload_n 0, 1) := by decide +kernel
theorem d_T_copyOn_1 : decode b_T_copyOn 1 = .ok (.invokevirtual 224, 3) := by decide +kernel
theorem d_T_copyOn_4 : decode b_T_copyOn 4 = .ok (.istore_n 1, 1) := by decide +kernel
theorem d_T_copyOn_5 : decode b_T_copyOn 5 = .ok (.iload_n 1, 1) := by decide +kernel
theorem d_T_copyOn_6 : decode b_T_copyOn 6 = .ok (.iconst (-1), 1) := by decide +kernel
theorem d_T_copyOn_7 : decode b_T_copyOn 7 = .ok (.if_icmp .ne 4, 3) := by decide +kernel
theorem d_T_copyOn_10 : decode b_T_copyOn 10 = .ok (.return_, 1) := by decide +kernel
theorem d_T_copyOn_11 : decode b_T_copyOn 11 = .ok (.iconst 0, 1) := by decide +kernel
theorem d_T_copyOn_12 : decode b_T_copyOn 12 = .ok (.istore_n 2, 1) := by decide +kernel
theorem d_T_copyOn_13 : decode b_T_copyOn 13 = .ok (.iload_n 2, 1) := by decide +kernel
theorem d_T_copyOn_14 : decode b_T_copyOn 14 = .ok (.iconst 3, 1) := by decide +kernel
theorem d_T_copyOn_15 : decode b_T_copyOn 15 = .ok (.if_icmp .ge 49, 3) := by decide +kernel
theorem d_T_copyOn_18 : decode b_T_copyOn 18 = .ok (.aload_n 0, 1) := by decide +kernel
theorem d_T_copyOn_19 : decode b_T_copyOn 19 = .ok (.getfield 18, 3) := by decide +kernel
theorem d_T_copyOn_22 : decode b_T_copyOn 22 = .ok (.iload_n 2, 1) := by decide +kernel
theorem d_T_copyOn_23 : decode b_T_copyOn 23 = .ok (.aaload, 1) := by decide +kernel
theorem d_T_copyOn_24 : decode b_T_copyOn 24 = .ok (.getfield 151, 3) := by decide +kernel
theorem d_T_copyOn_27 : decode b_T_copyOn 27 = .ok (.iconst 1, 1) := by decide +kernel
theorem d_T_copyOn_28 : decode b_T_copyOn 28 = .ok (.if_icmp .ne 30, 3) := by decide +kernel
theorem d_T_copyOn_31 : decode b_T_copyOn 31 = .ok (.aload_n 0, 1) := by decide +kernel
theorem d_T_copyOn_32 : decode b_T_copyOn 32 = .ok (.getfield 18, 3) := by decide +kernel
theorem d_T_copyOn_35 : decode b_T_copyOn 35 = .ok (.iload_n 2, 1) := by decide +kernel
theorem d_T_copyOn_36 : decode b_T_copyOn 36 = .ok (.aaload, 1) := by decide +kernel
theorem d_T_copyOn_37 : decode b_T_copyOn 37 = .ok (.getfield 298, 3) := by decide +kernel
theorem d_T_copyOn_40 : decode b_T_copyOn 40 = .ok (.ifCond .ne 18, 3) := by decide +kernel
theorem d_T_copyOn_43 : decode b_T_copyOn 43 = .ok (.aload_n 0, 1) := by decide +kernel
theorem d_T_copyOn_44 : decode b_T_copyOn 44 = .ok (.getfield 18, 3) := by decide +kernel
theorem d_T_copyOn_47 : decode b_T_copyOn 47 = .ok (.iload_n 2, 1) := by decide +kernel
theorem d_T_copyOn_48 : decode b_T_copyOn 48 = .ok (.aaload, 1) := by decide +kernel
theorem d_T_copyOn_49 : decode b_T_copyOn 49 = .ok (.aload_n 0, 1) := by decide +kernel
theorem d_T_copyOn_50 : decode b_T_copyOn 50 = .ok (.getfield 18, 3) := by decide +kernel
theorem d_T_copyOn_53 : decode b_T_copyOn 53 = .ok (.iload_n 1, 1) := by decide +kernel
theorem d_T_copyOn_54 : decode b_T_copyOn 54 = .ok (.aaload, 1) := by decide +kernel
theorem d_T_copyOn_55 : decode b_T_copyOn 55 = .ok (.invokevirtual 304, 3) := by decide +kernel
theorem d_T_copyOn_58 : decode b_T_copyOn 58 = .ok (.iinc 2 1, 3) := by decide +kernel
theorem d_T_copyOn_61 : decode b_T_copyOn 61 = .ok (.goto (-48), 3) := by decide +kernel
theorem d_T_copyOn_64 : decode b_T_copyOn 64 = .ok (.return_, 1) := by decide +kernel
theorem d_T_forgive_0 : decode b_T_forgive 0 = .ok (.aload_n 0, 1) := by decide +kernel
theorem d_T_forgive_1 : decode b_T_forgive 1 = .ok (.getfield 70, 3) := by decide +kernel
theorem d_T_forgive_4 : decode b_T_forgive 4 = .ok (.iconst 4, 1) := by decide +kernel
theorem d_T_forgive_5 : decode b_T_forgive 5 = .ok (.irem, 1) := by decide +kernel
theorem d_T_forgive_6 : decode b_T_forgive 6 = .ok (.ifCond .eq 4, 3) := by decide +kernel
theorem d_T_forgive_9 : decode b_T_forgive 9 = .ok (.return_, 1) := by decide +kernel
theorem d_T_forgive_10 : decode b_T_forgive 10 = .ok (.iconst 0, 1) := by decide +kernel
theorem d_T_forgive_11 : decode b_T_forgive 11 = .ok (.istore_n 1, 1) := by decide +kernel
theorem d_T_forgive_12 : decode b_T_forgive 12 = .ok (.iload_n 1, 1) := by decide +kernel
theorem d_T_forgive_13 : decode b_T_forgive 13 = .ok (.iconst 3, 1) := by decide +kernel
theorem d_T_forgive_14 : decode b_T_forgive 14 = .ok (.if_icmp .ge 36, 3) := by decide +kernel
theorem d_T_forgive_17 : decode b_T_forgive 17 = .ok (.aload_n 0, 1) := by decide +kernel
theorem d_T_forgive_18 : decode b_T_forgive 18 = .ok (.getfield 18, 3) := by decide +kernel
theorem d_T_forgive_21 : decode b_T_forgive 21 = .ok (.iload_n 1, 1) := by decide +kernel
theorem d_T_forgive_22 : decode b_T_forgive 22 = .ok (.aaload, 1) := by decide +kernel
theorem d_T_forgive_23 : decode b_T_forgive 23 = .ok (.getfield 160, 3) := by decide +kernel
theorem d_T_forgive_26 : decode b_T_forgive 26 = .ok (.ifCond .le 18, 3) := by decide +kernel
theorem d_T_forgive_29 : decode b_T_forgive 29 = .ok (.aload_n 0, 1) := by decide +kernel
theorem d_T_forgive_30 : decode b_T_forgive 30 = .ok (.getfield 18, 3) := by decide +kernel
theorem d_T_forgive_33 : decode b_T_forgive 33 = .ok (.iload_n 1, 1) := by decide +kernel
theorem d_T_forgive_34 : decode b_T_forgive 34 = .ok (.aaload, 1) := by decide +kernel
theorem d_T_forgive_35 : decode b_T_forgive 35 = .ok (.dup, 1) := by decide +kernel
theorem d_T_forgive_36 : decode b_T_forgive 36 = .ok (.getfield 160, 3) := by decide +kernel
theorem d_T_forgive_39 : decode b_T_forgive 39 = .ok (.iconst 1, 1) := by decide +kernel
theorem d_T_forgive_40 : decode b_T_forgive 40 = .ok (.isub, 1) := by decide +kernel
theorem d_T_forgive_41 : decode b_T_forgive 41 = .ok (.putfield 160, 3) := by decide +kernel
theorem d_T_forgive_44 : decode b_T_forgive 44 = .ok (.iinc 1 1, 3) := by decide +kernel
theorem d_T_forgive_47 : decode b_T_forgive 47 = .ok (.goto (-35), 3) := by decide +kernel
theorem d_T_forgive_50 : decode b_T_forgive 50 = .ok (.return_, 1) := by decide +kernel
theorem d_M_init_0 : decode b_M_init 0 = .ok (.aload_n 0, 1) := by decide +kernel
theorem d_M_init_1 : decode b_M_init 1 = .ok (.invokespecial 1, 3) := by decide +kernel
theorem d_M_init_4 : decode b_M_init 4 = .ok (.aload_n 0, 1) := by decide +kernel
theorem d_M_init_5 : decode b_M_init 5 = .ok (.bipush 64, 2) := by decide +kernel
theorem d_M_init_7 : decode b_M_init 7 = .ok (.newarray .int, 2) := by decide +kernel
theorem d_M_init_9 : decode b_M_init 9 = .ok (.putfield 7, 3) := by decide +kernel
theorem d_M_init_12 : decode b_M_init 12 = .ok (.aload_n 0, 1) := by decide +kernel
theorem d_M_init_13 : decode b_M_init 13 = .ok (.bipush 24, 2) := by decide +kernel
theorem d_M_init_15 : decode b_M_init 15 = .ok (.newarray .int, 2) := by decide +kernel
theorem d_M_init_17 : decode b_M_init 17 = .ok (.putfield 13, 3) := by decide +kernel
theorem d_M_init_20 : decode b_M_init 20 = .ok (.aload_n 0, 1) := by decide +kernel
theorem d_M_init_21 : decode b_M_init 21 = .ok (.bipush 96, 2) := by decide +kernel
theorem d_M_init_23 : decode b_M_init 23 = .ok (.newarray .int, 2) := by decide +kernel
theorem d_M_init_25 : decode b_M_init 25 = .ok (.putfield 16, 3) := by decide +kernel
theorem d_M_init_28 : decode b_M_init 28 = .ok (.aload_n 0, 1) := by decide +kernel
theorem d_M_init_29 : decode b_M_init 29 = .ok (.iconst 3, 1) := by decide +kernel
theorem d_M_init_30 : decode b_M_init 30 = .ok (.newarray .int, 2) := by decide +kernel
theorem d_M_init_32 : decode b_M_init 32 = .ok (.putfield 19, 3) := by decide +kernel
theorem d_M_init_35 : decode b_M_init 35 = .ok (.aload_n 0, 1) := by decide +kernel
theorem d_M_init_36 : decode b_M_init 36 = .ok (.iconst 3, 1) := by decide +kernel
theorem d_M_init_37 : decode b_M_init 37 = .ok (.newarray .int, 2) := by decide +kernel
theorem d_M_init_39 : decode b_M_init 39 = .ok (.putfield 22, 3) := by decide +kernel
theorem d_M_init_42 : decode b_M_init 42 = .ok (.aload_n 0, 1) := by decide +kernel
theorem d_M_init_43 : decode b_M_init 43 = .ok (.iconst 3, 1) := by decide +kernel
theorem d_M_init_44 : decode b_M_init 44 = .ok (.newarray .int, 2) := by decide +kernel
theorem d_M_init_46 : decode b_M_init 46 = .ok (.putfield 25, 3) := by decide +kernel
theorem d_M_init_49 : decode b_M_init 49 = .ok (.aload_n 0, 1) := by decide +kernel
theorem d_M_init_50 : decode b_M_init 50 = .ok (.iconst 3, 1) := by decide +kernel
theorem d_M_init_51 : decode b_M_init 51 = .ok (.newarray .int, 2) := by decide +kernel
theorem d_M_init_53 : decode b_M_init 53 = .ok (.putfield 28, 3) := by decide +kernel
theorem d_M_init_56 : decode b_M_init 56 = .ok (.aload_n 0, 1) := by decide +kernel
theorem d_M_init_57 : decode b_M_init 57 = .ok (.iconst 3, 1) := by decide +kernel
theorem d_M_init_58 : decode b_M_init 58 = .ok (.newarray .boolean, 2) := by decide +kernel
theorem d_M_init_60 : decode b_M_init 60 = .ok (.putfield 31, 3) := by decide +kernel
theorem d_M_init_63 : decode b_M_init 63 = .ok (.aload_n 0, 1) := by decide +kernel
theorem d_M_init_64 : decode b_M_init 64 = .ok (.iconst 3, 1) := by decide +kernel
theorem d_M_init_65 : decode b_M_init 65 = .ok (.newarray .boolean, 2) := by decide +kernel
theorem d_M_init_67 : decode b_M_init 67 = .ok (.putfield 35, 3) := by decide +kernel
theorem d_M_init_70 : decode b_M_init 70 = .ok (.aload_n 0, 1) := by decide +kernel
theorem d_M_init_71 : decode b_M_init 71 = .ok (.iconst 3, 1) := by decide +kernel
theorem d_M_init_72 : decode b_M_init 72 = .ok (.newarray .int, 2) := by decide +kernel
theorem d_M_init_74 : decode b_M_init 74 = .ok (.putfield 38, 3) := by decide +kernel
theorem d_M_init_77 : decode b_M_init 77 = .ok (.aload_n 0, 1) := by decide +kernel
theorem d_M_init_78 : decode b_M_init 78 = .ok (.iconst 3, 1) := by decide +kernel
theorem d_M_init_79 : decode b_M_init 79 = .ok (.newarray .int, 2) := by decide +kernel
theorem d_M_init_81 : decode b_M_init 81 = .ok (.putfield 41, 3) := by decide +kernel
theorem d_M_init_84 : decode b_M_init 84 = .ok (.aload_n 0, 1) := by decide +kernel
theorem d_M_init_85 : decode b_M_init 85 = .ok (.iconst 3, 1) := by decide +kernel
theorem d_M_init_86 : decode b_M_init 86 = .ok (.newarray .int, 2) := by decide +kernel
theorem d_M_init_88 : decode b_M_init 88 = .ok (.putfield 44, 3) := by decide +kernel
theorem d_M_init_91 : decode b_M_init 91 = .ok (.aload_n 0, 1) := by decide +kernel
theorem d_M_init_92 : decode b_M_init 92 = .ok (.iconst 3, 1) := by decide +kernel
theorem d_M_init_93 : decode b_M_init 93 = .ok (.newarray .boolean, 2) := by decide +kernel
theorem d_M_init_95 : decode b_M_init 95 = .ok (.putfield 47, 3) := by decide +kernel
theorem d_M_init_98 : decode b_M_init 98 = .ok (.aload_n 0, 1) := by decide +kernel
theorem d_M_init_99 : decode b_M_init 99 = .ok (.iconst 3, 1) := by decide +kernel
theorem d_M_init_100 : decode b_M_init 100 = .ok (.newarray .int, 2) := by decide +kernel
theorem d_M_init_102 : decode b_M_init 102 = .ok (.putfield 50, 3) := by decide +kernel
theorem d_M_init_105 : decode b_M_init 105 = .ok (.aload_n 0, 1) := by decide +kernel
theorem d_M_init_106 : decode b_M_init 106 = .ok (.iconst 3, 1) := by decide +kernel
theorem d_M_init_107 : decode b_M_init 107 = .ok (.newarray .int, 2) := by decide +kernel
theorem d_M_init_109 : decode b_M_init 109 = .ok (.putfield 53, 3) := by decide +kernel
theorem d_M_init_112 : decode b_M_init 112 = .ok (.aload_n 0, 1) := by decide +kernel
theorem d_M_init_113 : decode b_M_init 113 = .ok (.iconst 3, 1) := by decide +kernel
theorem d_M_init_114 : decode b_M_init 114 = .ok (.newarray .int, 2) := by decide +kernel
theorem d_M_init_116 : decode b_M_init 116 = .ok (.putfield 56, 3) := by decide +kernel
theorem d_M_init_119 : decode b_M_init 119 = .ok (.aload_n 0, 1) := by decide +kernel
theorem d_M_init_120 : decode b_M_init 120 = .ok (.iconst 3, 1) := by decide +kernel
theorem d_M_init_121 : decode b_M_init 121 = .ok (.newarray .boolean, 2) := by decide +kernel
theorem d_M_init_123 : decode b_M_init 123 = .ok (.putfield 59, 3) := by decide +kernel
theorem d_M_init_126 : decode b_M_init 126 = .ok (.aload_n 0, 1) := by decide +kernel
theorem d_M_init_127 : decode b_M_init 127 = .ok (.bipush 64, 2) := by decide +kernel
theorem d_M_init_129 : decode b_M_init 129 = .ok (.newarray .int, 2) := by decide +kernel
theorem d_M_init_131 : decode b_M_init 131 = .ok (.putfield 62, 3) := by decide +kernel
theorem d_M_init_134 : decode b_M_init 134 = .ok (.aload_n 0, 1) := by decide +kernel
theorem d_M_init_135 : decode b_M_init 135 = .ok (.sipush 300, 3) := by decide +kernel
theorem d_M_init_138 : decode b_M_init 138 = .ok (.newarray .int, 2) := by decide +kernel
theorem d_M_init_140 : decode b_M_init 140 = .ok (.putfield 65, 3) := by decide +kernel
theorem d_M_init_143 : decode b_M_init 143 = .ok (.aload_n 0, 1) := by decide +kernel
theorem d_M_init_144 : decode b_M_init 144 = .ok (.bipush 8, 2) := by decide +kernel
theorem d_M_init_146 : decode b_M_init 146 = .ok (.newarray .int, 2) := by decide +kernel
theorem d_M_init_148 : decode b_M_init 148 = .ok (.putfield 68, 3) := by decide +kernel
theorem d_M_init_151 : decode b_M_init 151 = .ok (.aload_n 0, 1) := by decide +kernel
theorem d_M_init_152 : decode b_M_init 152 = .ok (.bipush 32, 2) := by decide +kernel
theorem d_M_init_154 : decode b_M_init 154 = .ok (.newarray .int, 2) := by decide +kernel
theorem d_M_init_156 : decode b_M_init 156 = .ok (.putfield 71, 3) := by decide +kernel
theorem d_M_init_159 : decode b_M_init 159 = .ok (.aload_n 0, 1) := by decide +kernel
theorem d_M_init_160 : decode b_M_init 160 = .ok (.sipush 300, 3) := by decide +kernel
theorem d_M_init_163 : decode b_M_init 163 = .ok (.newarray .int, 2) := by decide +kernel
theorem d_M_init_165 : decode b_M_init 165 = .ok (.putfield 74, 3) := by decide +kernel
theorem d_M_init_168 : decode b_M_init 168 = .ok (.return_, 1) := by decide +kernel
theorem d_M_op_0 : decode b_M_op 0 = .ok (.iload_n 0, 1) := by decide +kernel
theorem d_M_op_1 : decode b_M_op 1 = .ok (.bipush 24, 2) := by decide +kernel
theorem d_M_op_3 : decode b_M_op 3 = .ok (.iushr, 1) := by decide +kernel
theorem d_M_op_4 : decode b_M_op 4 = .ok (.ireturn, 1) := by decide +kernel
theorem d_M_part_0 : decode b_M_part 0 = .ok (.iload_n 0, 1) := by decide +kernel
theorem d_M_part_1 : decode b_M_part 1 = .ok (.bipush 16, 2) := by decide +kernel
theorem d_M_part_3 : decode b_M_part 3 = .ok (.bipush 8, 2) := by decide +kernel
theorem d_M_part_5 : decode b_M_part 5 = .ok (.iload_n 1, 1) := by decide +kernel
theorem d_M_part_6 : decode b_M_part 6 = .ok (.imul, 1) := by decide +kernel
theorem d_M_part_7 : decode b_M_part 7 = .ok (.isub, 1) := by decide +kernel
theorem d_M_part_8 : decode b_M_part 8 = .ok (.iushr, 1) := by decide +kernel
theorem d_M_part_9 : decode b_M_part 9 = .ok (.sipush 255, 3) := by decide +kernel
theorem d_M_part_12 : decode b_M_part 12 = .ok (.iand, 1) := by decide +kernel
theorem d_M_part_13 : decode b_M_part 13 = .ok (.ireturn, 1) := by decide +kernel
theorem d_M_isRight_0 : decode b_M_isRight 0 = .ok (.iload_n 0, 1) := by decide +kernel
theorem d_M_isRight_1 : decode b_M_isRight 1 = .ok (.iconst 0, 1) := by decide +kernel
theorem d_M_isRight_2 : decode b_M_isRight 2 = .ok (.invokestatic 81, 3) := by decide +kernel
theorem d_M_isRight_5 : decode b_M_isRight 5 = .ok (.istore_n 1, 1) := by decide +kernel
theorem d_M_isRight_6 : decode b_M_isRight 6 = .ok (.iload_n 0, 1) := by decide +kernel
theorem d_M_isRight_7 : decode b_M_isRight 7 = .ok (.iconst 1, 1) := by decide +kernel
theorem d_M_isRight_8 : decode b_M_isRight 8 = .ok (.invokestatic 81, 3) := by decide +kernel
theorem d_M_isRight_11 : decode b_M_isRight 11 = .ok (.istore_n 2, 1) := by decide +kernel
theorem d_M_isRight_12 : decode b_M_isRight 12 = .ok (.iload_n 0, 1) := by decide +kernel
theorem d_M_isRight_13 : decode b_M_isRight 13 = .ok (.iconst 2, 1) := by decide +kernel
theorem d_M_isRight_14 : decode b_M_isRight 14 = .ok (.invokestatic 81, 3) := by decide +kernel
theorem d_M_isRight_17 : decode b_M_isRight 17 = .ok (.istore_n 3, 1) := by decide +kernel
theorem d_M_isRight_18 : decode b_M_isRight 18 = .ok (.iload_n 0, 1) := by decide +kernel
theorem d_M_isRight_19 : decode b_M_isRight 19 = .ok (.invokestatic 85, 3) := by decide +kernel
theorem d_M_isRight_22 : decode b_M_isRight 22 = .ok (.tableswitch 114 0 10 #[58, 70, 70, 70, 70, 94, 94, 58, 112, 58, 58], 58) := by decide +kernel
theorem d_M_isRight_80 : decode b_M_isRight 80 = .ok (.iload_n 1, 1) := by decide +kernel
theorem d_M_isRight_81 : decode b_M_isRight 81 = .ok (.bipush 8, 2) := by decide +kernel
theorem d_M_isRight_83 : decode b_M_isRight 83 = .ok (.if_icmp .ge 7, 3) := by decide +kernel
theorem d_M_isRight_86 : decode b_M_isRight 86 = .ok (.iconst 1, 1) := by decide +kernel
theorem d_M_isRight_87 : decode b_M_isRight 87 = .ok (.goto 4, 3) := by decide +kernel
theorem d_M_isRight_90 : decode b_M_isRight 90 = .ok (.iconst 0, 1) := by decide +kernel
theorem d_M_isRight_91 : decode b_M_isRight 91 = .ok (.ireturn, 1) := by decide +kernel
theorem d_M_isRight_92 : decode b_M_isRight 92 = .ok (.iload_n 1, 1) := by decide +kernel
theorem d_M_isRight_93 : decode b_M_isRight 93 = .ok (.bipush 8, 2) := by decide +kernel
theorem d_M_isRight_95 : decode b_M_isRight 95 = .ok (.if_icmp .ge 19, 3) := by decide +kernel
theorem d_M_isRight_98 : decode b_M_isRight 98 = .ok (.iload_n 2, 1) := by decide +kernel
theorem d_M_isRight_99 : decode b_M_isRight 99 = .ok (.bipush 8, 2) := by decide +kernel
theorem d_M_isRight_101 : decode b_M_isRight 101 = .ok (.if_icmp .ge 13, 3) := by decide +kernel
theorem d_M_isRight_104 : decode b_M_isRight 104 = .ok (.iload_n 3, 1) := by decide +kernel
theorem d_M_isRight_105 : decode b_M_isRight 105 = .ok (.bipush 8, 2) := by decide +kernel
theorem d_M_isRight_107 : decode b_M_isRight 107 = .ok (.if_icmp .ge 7, 3) := by decide +kernel
theorem d_M_isRight_110 : decode b_M_isRight 110 = .ok (.iconst 1, 1) := by decide +kernel
theorem d_M_isRight_111 : decode b_M_isRight 111 = .ok (.goto 4, 3) := by decide +kernel
theorem d_M_isRight_114 : decode b_M_isRight 114 = .ok (.iconst 0, 1) := by decide +kernel
theorem d_M_isRight_115 : decode b_M_isRight 115 = .ok (.ireturn, 1) := by decide +kernel
theorem d_M_isRight_116 : decode b_M_isRight 116 = .ok (.iload_n 1, 1) := by decide +kernel
theorem d_M_isRight_117 : decode b_M_isRight 117 = .ok (.bipush 8, 2) := by decide +kernel
theorem d_M_isRight_119 : decode b_M_isRight 119 = .ok (.if_icmp .ge 13, 3) := by decide +kernel
theorem d_M_isRight_122 : decode b_M_isRight 122 = .ok (.iload_n 2, 1) := by decide +kernel
theorem d_M_isRight_123 : decode b_M_isRight 123 = .ok (.bipush 8, 2) := by decide +kernel
theorem d_M_isRight_125 : decode b_M_isRight 125 = .ok (.if_icmp .ge 7, 3) := by decide +kernel
theorem d_M_isRight_128 : decode b_M_isRight 128 = .ok (.iconst 1, 1) := by decide +kernel
theorem d_M_isRight_129 : decode b_M_isRight 129 = .ok (.goto 4, 3) := by decide +kernel
theorem d_M_isRight_132 : decode b_M_isRight 132 = .ok (.iconst 0, 1) := by decide +kernel
theorem d_M_isRight_133 : decode b_M_isRight 133 = .ok (.ireturn, 1) := by decide +kernel
theorem d_M_isRight_134 : decode b_M_isRight 134 = .ok (.iconst 1, 1) := by decide +kernel
theorem d_M_isRight_135 : decode b_M_isRight 135 = .ok (.ireturn, 1) := by decide +kernel
theorem d_M_isRight_136 : decode b_M_isRight 136 = .ok (.iconst 0, 1) := by decide +kernel
theorem d_M_isRight_137 : decode b_M_isRight 137 = .ok (.ireturn, 1) := by decide +kernel
theorem d_M_program_0 : decode b_M_program 0 = .ok (.aload_n 0, 1) := by decide +kernel
theorem d_M_program_1 : decode b_M_program 1 = .ok (.iconst 0, 1) := by decide +kernel
theorem d_M_program_2 : decode b_M_program 2 = .ok (.putfield 77, 3) := by decide +kernel
theorem d_M_program_5 : decode b_M_program 5 = .ok (.aload_n 0, 1) := by decide +kernel
theorem d_M_program_6 : decode b_M_program 6 = .ok (.getfield 89, 3) := by decide +kernel
theorem d_M_program_9 : decode b_M_program 9 = .ok (.ifCond .ne 28, 3) := by decide +kernel
theorem d_M_program_12 : decode b_M_program 12 = .ok (.iload_n 1, 1) := by decide +kernel
theorem d_M_program_13 : decode b_M_program 13 = .ok (.ifCond .lt 24, 3) := by decide +kernel
theorem d_M_program_16 : decode b_M_program 16 = .ok (.iload_n 1, 1) := by decide +kernel
theorem d_M_program_17 : decode b_M_program 17 = .ok (.aload_n 0, 1) := by decide +kernel
theorem d_M_program_18 : decode b_M_program 18 = .ok (.getfield 93, 3) := by decide +kernel
theorem d_M_program_21 : decode b_M_program 21 = .ok (.if_icmp .gt 16, 3) := by decide +kernel
theorem d_M_program_24 : decode b_M_program 24 = .ok (.iload_n 1, 1) := by decide +kernel
theorem d_M_program_25 : decode b_M_program 25 = .ok (.bipush 63, 2) := by decide +kernel
theorem d_M_program_27 : decode b_M_program 27 = .ok (.if_icmp .gt 10, 3) := by decide +kernel
theorem d_M_program_30 : decode b_M_program 30 = .ok (.iload_n 2, 1) := by decide +kernel
theorem d_M_program_31 : decode b_M_program 31 = .ok (.invokestatic 96, 3) := by decide +kernel
theorem d_M_program_34 : decode b_M_program 34 = .ok (.ifCond .ne 5, 3) := by decide +kernel
theorem d_M_program_37 : decode b_M_program 37 = .ok (.iconst 0, 1) := by decide +kernel
theorem d_M_program_38 : decode b_M_program 38 = .ok (.ireturn, 1) := by decide +kernel
theorem d_M_program_39 : decode b_M_program 39 = .ok (.aload_n 0, 1) := by decide +kernel
theorem d_M_program_40 : decode b_M_program 40 = .ok (.getfield 7, 3) := by decide +kernel
theorem d_M_program_43 : decode b_M_program 43 = .ok (.iload_n 1, 1) := by decide +kernel
theorem d_M_program_44 : decode b_M_program 44 = .ok (.iload_n 2, 1) := by decide +kernel
theorem d_M_program_45 : decode b_M_program 45 = .ok (.iastore, 1) := by decide +kernel
theorem d_M_program_46 : decode b_M_program 46 = .ok (.iload_n 1, 1) := by decide +kernel
theorem d_M_program_47 : decode b_M_program 47 = .ok (.aload_n 0, 1) := by decide +kernel
theorem d_M_program_48 : decode b_M_program 48 = .ok (.getfield 93, 3) := by decide +kernel
theorem d_M_program_51 : decode b_M_program 51 = .ok (.if_icmp .ne 13, 3) := by decide +kernel
theorem d_M_program_54 : decode b_M_program 54 = .ok (.aload_n 0, 1) := by decide +kernel
theorem d_M_program_55 : decode b_M_program 55 = .ok (.dup, 1) := by decide +kernel
theorem d_M_program_56 : decode b_M_program 56 = .ok (.getfield 93, 3) := by decide +kernel
theorem d_M_program_59 : decode b_M_program 59 = .ok (.iconst 1, 1) := by decide +kernel
theorem d_M_program_60 : decode b_M_program 60 = .ok (.iadd, 1) := by decide +kernel
theorem d_M_program_61 : decode b_M_program 61 = .ok (.putfield 93, 3) := by decide +kernel
theorem d_M_program_64 : decode b_M_program 64 = .ok (.iconst 1, 1) := by decide +kernel
theorem d_M_program_65 : decode b_M_program 65 = .ok (.ireturn, 1) := by decide +kernel
theorem d_M_isData_0 : decode b_M_isData 0 = .ok (.iload_n 0, 1) := by decide +kernel
theorem d_M_isData_1 : decode b_M_isData 1 = .ok (.iconst 2, 1) := by decide +kernel
theorem d_M_isData_2 : decode b_M_isData 2 = .ok (.if_icmp .le 24, 3) := by decide +kernel
theorem d_M_isData_5 : decode b_M_isData 5 = .ok (.iload_n 0, 1) := by decide +kernel
theorem d_M_isData_6 : decode b_M_isData 6 = .ok (.iconst 4, 1) := by decide +kernel
theorem d_M_isData_7 : decode b_M_isData 7 = .ok (.if_icmp .eq 19, 3) := by decide +kernel
theorem d_M_isData_10 : decode b_M_isData 10 = .ok (.iload_n 0, 1) := by decide +kernel
theorem d_M_isData_11 : decode b_M_isData 11 = .ok (.bipush 8, 2) := by decide +kernel
theorem d_M_isData_13 : decode b_M_isData 13 = .ok (.if_icmp .eq 13, 3) := by decide +kernel
theorem d_M_isData_16 : decode b_M_isData 16 = .ok (.iload_n 0, 1) := by decide +kernel
theorem d_M_isData_17 : decode b_M_isData 17 = .ok (.bipush 16, 2) := by decide +kernel
theorem d_M_isData_19 : decode b_M_isData 19 = .ok (.if_icmp .eq 7, 3) := by decide +kernel
theorem d_M_isData_22 : decode b_M_isData 22 = .ok (.iconst 1, 1) := by decide +kernel
theorem d_M_isData_23 : decode b_M_isData 23 = .ok (.goto 4, 3) := by decide +kernel
theorem d_M_isData_26 : decode b_M_isData 26 = .ok (.iconst 0, 1) := by decide +kernel
theorem d_M_isData_27 : decode b_M_isData 27 = .ok (.ireturn, 1) := by decide +kernel
theorem d_M_positions_0 : decode b_M_positions 0 = .ok (.iconst 0, 1) := by decide +kernel
theorem d_M_positions_1 : decode b_M_positions 1 = .ok (.istore_n 1, 1) := by decide +kernel
theorem d_M_positions_2 : decode b_M_positions 2 = .ok (.iconst 1, 1) := by decide +kernel
theorem d_M_positions_3 : decode b_M_positions 3 = .ok (.istore_n 2, 1) := by decide +kernel
theorem d_M_positions_4 : decode b_M_positions 4 = .ok (.iload_n 2, 1) := by decide +kernel
theorem d_M_positions_5 : decode b_M_positions 5 = .ok (.bipush 22, 2) := by decide +kernel
theorem d_M_positions_7 : decode b_M_positions 7 = .ok (.if_icmp .ge 26, 3) := by decide +kernel
theorem d_M_positions_10 : decode b_M_positions 10 = .ok (.iload_n 1, 1) := by decide +kernel
theorem d_M_positions_11 : decode b_M_positions 11 = .ok (.iload_n 0, 1) := by decide +kernel
theorem d_M_positions_12 : decode b_M_positions 12 = .ok (.iload_n 2, 1) := by decide +kernel
theorem d_M_positions_13 : decode b_M_positions 13 = .ok (.ishr, 1) := by decide +kernel
theorem d_M_positions_14 : decode b_M_positions 14 = .ok (.iconst 1, 1) := by decide +kernel
theorem d_M_positions_15 : decode b_M_positions 15 = .ok (.iand, 1) := by decide +kernel
theorem d_M_positions_16 : decode b_M_positions 16 = .ok (.iconst 1, 1) := by decide +kernel
theorem d_M_positions_17 : decode b_M_positions 17 = .ok (.if_icmp .ne 7, 3) := by decide +kernel
theorem d_M_positions_20 : decode b_M_positions 20 = .ok (.iload_n 2, 1) := by decide +kernel
theorem d_M_positions_21 : decode b_M_positions 21 = .ok (.goto 4, 3) := by decide +kernel
theorem d_M_positions_24 : decode b_M_positions 24 = .ok (.iconst 0, 1) := by decide +kernel
theorem d_M_positions_25 : decode b_M_positions 25 = .ok (.ixor, 1) := by decide +kernel
theorem d_M_positions_26 : decode b_M_positions 26 = .ok (.istore_n 1, 1) := by decide +kernel
theorem d_M_positions_27 : decode b_M_positions 27 = .ok (.iinc 2 1, 3) := by decide +kernel
theorem d_M_positions_30 : decode b_M_positions 30 = .ok (.goto (-26), 3) := by decide +kernel
theorem d_M_positions_33 : decode b_M_positions 33 = .ok (.iload_n 1, 1) := by decide +kernel
theorem d_M_positions_34 : decode b_M_positions 34 = .ok (.ireturn, 1) := by decide +kernel
theorem d_M_ones_0 : decode b_M_ones 0 = .ok (.iconst 0, 1) := by decide +kernel
theorem d_M_ones_1 : decode b_M_ones 1 = .ok (.istore_n 1, 1) := by decide +kernel
theorem d_M_ones_2 : decode b_M_ones 2 = .ok (.iconst 0, 1) := by decide +kernel
theorem d_M_ones_3 : decode b_M_ones 3 = .ok (.istore_n 2, 1) := by decide +kernel
theorem d_M_ones_4 : decode b_M_ones 4 = .ok (.iload_n 2, 1) := by decide +kernel
theorem d_M_ones_5 : decode b_M_ones 5 = .ok (.bipush 22, 2) := by decide +kernel
theorem d_M_ones_7 : decode b_M_ones 7 = .ok (.if_icmp .ge 17, 3) := by decide +kernel
theorem d_M_ones_10 : decode b_M_ones 10 = .ok (.iload_n 1, 1) := by decide +kernel
theorem d_M_ones_11 : decode b_M_ones 11 = .ok (.iload_n 0, 1) := by decide +kernel
theorem d_M_ones_12 : decode b_M_ones 12 = .ok (.iload_n 2, 1) := by decide +kernel
theorem d_M_ones_13 : decode b_M_ones 13 = .ok (.ishr, 1) := by decide +kernel
theorem d_M_ones_14 : decode b_M_ones 14 = .ok (.iconst 1, 1) := by decide +kernel
theorem d_M_ones_15 : decode b_M_ones 15 = .ok (.iand, 1) := by decide +kernel
theorem d_M_ones_16 : decode b_M_ones 16 = .ok (.iadd, 1) := by decide +kernel
theorem d_M_ones_17 : decode b_M_ones 17 = .ok (.istore_n 1, 1) := by decide +kernel
theorem d_M_ones_18 : decode b_M_ones 18 = .ok (.iinc 2 1, 3) := by decide +kernel
theorem d_M_ones_21 : decode b_M_ones 21 = .ok (.goto (-17), 3) := by decide +kernel
theorem d_M_ones_24 : decode b_M_ones 24 = .ok (.iload_n 1, 1) := by decide +kernel
theorem d_M_ones_25 : decode b_M_ones 25 = .ok (.ireturn, 1) := by decide +kernel
theorem d_M_encode_0 : decode b_M_encode 0 = .ok (.iconst 0, 1) := by decide +kernel
theorem d_M_encode_1 : decode b_M_encode 1 = .ok (.istore_n 1, 1) := by decide +kernel
theorem d_M_encode_2 : decode b_M_encode 2 = .ok (.iconst 0, 1) := by decide +kernel
theorem d_M_encode_3 : decode b_M_encode 3 = .ok (.istore_n 2, 1) := by decide +kernel
theorem d_M_encode_4 : decode b_M_encode 4 = .ok (.iconst 1, 1) := by decide +kernel
theorem d_M_encode_5 : decode b_M_encode 5 = .ok (.istore_n 3, 1) := by decide +kernel
theorem d_M_encode_6 : decode b_M_encode 6 = .ok (.iload_n 3, 1) := by decide +kernel
theorem d_M_encode_7 : decode b_M_encode 7 = .ok (.bipush 22, 2) := by decide +kernel
theorem d_M_encode_9 : decode b_M_encode 9 = .ok (.if_icmp .ge 32, 3) := by decide +kernel
theorem d_M_encode_12 : decode b_M_encode 12 = .ok (.iload_n 3, 1) := by decide +kernel
theorem d_M_encode_13 : decode b_M_encode 13 = .ok (.invokestatic 100, 3) := by decide +kernel
theorem d_M_encode_16 : decode b_M_encode 16 = .ok (.ifCond .ne 6, 3) := by decide +kernel
theorem d_M_encode_19 : decode b_M_encode 19 = .ok (.goto 16, 3) := by decide +kernel
theorem d_M_encode_22 : decode b_M_encode 22 = .ok (.iload_n 1, 1) := by decide +kernel
theorem d_M_encode_23 : decode b_M_encode 23 = .ok (.iload_n 0, 1) := by decide +kernel
theorem d_M_encode_24 : decode b_M_encode 24 = .ok (.iload_n 2, 1) := by decide +kernel
theorem d_M_encode_25 : decode b_M_encode 25 = .ok (.ishr, 1) := by decide +kernel
theorem d_M_encode_26 : decode b_M_encode 26 = .ok (.iconst 1, 1) := by decide +kernel
theorem d_M_encode_27 : decode b_M_encode 27 = .ok (.iand, 1) := by decide +kernel
theorem d_M_encode_28 : decode b_M_encode 28 = .ok (.iload_n 3, 1) := by decide +kernel
theorem d_M_encode_29 : decode b_M_encode 29 = .ok (.ishl, 1) := by decide +kernel
theorem d_M_encode_30 : decode b_M_encode 30 = .ok (.ior, 1) := by decide +kernel
theorem d_M_encode_31 : decode b_M_encode 31 = .ok (.istore_n 1, 1) := by decide +kernel
theorem d_M_encode_32 : decode b_M_encode 32 = .ok (.iinc 2 1, 3) := by decide +kernel
theorem d_M_encode_35 : decode b_M_encode 35 = .ok (.iinc 3 1, 3) := by decide +kernel
theorem d_M_encode_38 : decode b_M_encode 38 = .ok (.goto (-32), 3) := by decide +kernel
theorem d_M_encode_41 : decode b_M_encode 41 = .ok (.iload_n 1, 1) := by decide +kernel
theorem d_M_encode_42 : decode b_M_encode 42 = .ok (.invokestatic 103, 3) := by decide +kernel
theorem d_M_encode_45 : decode b_M_encode 45 = .ok (.istore_n 3, 1) := by decide +kernel
theorem d_M_encode_46 : decode b_M_encode 46 = .ok (.iconst 0, 1) := by decide +kernel
theorem d_M_encode_47 : decode b_M_encode 47 = .ok (.istore 4, 2) := by decide +kernel
theorem d_M_encode_49 : decode b_M_encode 49 = .ok (.iload 4, 2) := by decide +kernel
theorem d_M_encode_51 : decode b_M_encode 51 = .ok (.iconst 5, 1) := by decide +kernel
theorem d_M_encode_52 : decode b_M_encode 52 = .ok (.if_icmp .ge 23, 3) := by decide +kernel
theorem d_M_encode_55 : decode b_M_encode 55 = .ok (.iload_n 1, 1) := by decide +kernel
theorem d_M_encode_56 : decode b_M_encode 56 = .ok (.iload_n 3, 1) := by decide +kernel
theorem d_M_encode_57 : decode b_M_encode 57 = .ok (.iload 4, 2) := by decide +kernel
theorem d_M_encode_59 : decode b_M_encode 59 = .ok (.ishr, 1) := by decide +kernel
theorem d_M_encode_60 : decode b_M_encode 60 = .ok (.iconst 1, 1) := by decide +kernel
theorem d_M_encode_61 : decode b_M_encode 61 = .ok (.iand, 1) := by decide +kernel
theorem d_M_encode_62 : decode b_M_encode 62 = .ok (.iconst 1, 1) := by decide +kernel
theorem d_M_encode_63 : decode b_M_encode 63 = .ok (.iload 4, 2) := by decide +kernel
theorem d_M_encode_65 : decode b_M_encode 65 = .ok (.ishl, 1) := by decide +kernel
theorem d_M_encode_66 : decode b_M_encode 66 = .ok (.ishl, 1) := by decide +kernel
theorem d_M_encode_67 : decode b_M_encode 67 = .ok (.ior, 1) := by decide +kernel
theorem d_M_encode_68 : decode b_M_encode 68 = .ok (.istore_n 1, 1) := by decide +kernel
theorem d_M_encode_69 : decode b_M_encode 69 = .ok (.iinc 4 1, 3) := by decide +kernel
theorem d_M_encode_72 : decode b_M_encode 72 = .ok (.goto (-23), 3) := by decide +kernel
theorem d_M_encode_75 : decode b_M_encode 75 = .ok (.iload_n 1, 1) := by decide +kernel
theorem d_M_encode_76 : decode b_M_encode 76 = .ok (.iload_n 1, 1) := by decide +kernel
theorem d_M_encode_77 : decode b_M_encode 77 = .ok (.invokestatic 106, 3) := by decide +kernel
theorem d_M_encode_80 : decode b_M_encode 80 = .ok (.iconst 1, 1) := by decide +kernel
theorem d_M_encode_81 : decode b_M_encode 81 = .ok (.iand, 1) := by decide +kernel
theorem d_M_encode_82 : decode b_M_encode 82 = .ok (.ior, 1) := by decide +kernel
theorem d_M_encode_83 : decode b_M_encode 83 = .ok (.ireturn, 1) := by decide +kernel
theorem d_M_decode_0 : decode b_M_decode 0 = .ok (.iconst 0, 1) := by decide +kernel
theorem d_M_decode_1 : decode b_M_decode 1 = .ok (.istore_n 1, 1) := by decide +kernel
theorem d_M_decode_2 : decode b_M_decode 2 = .ok (.iconst 0, 1) := by decide +kernel
theorem d_M_decode_3 : decode b_M_decode 3 = .ok (.istore_n 2, 1) := by decide +kernel
theorem d_M_decode_4 : decode b_M_decode 4 = .ok (.iconst 1, 1) := by decide +kernel
theorem d_M_decode_5 : decode b_M_decode 5 = .ok (.istore_n 3, 1) := by decide +kernel
theorem d_M_decode_6 : decode b_M_decode 6 = .ok (.iload_n 3, 1) := by decide +kernel
theorem d_M_decode_7 : decode b_M_decode 7 = .ok (.bipush 22, 2) := by decide +kernel
theorem d_M_decode_9 : decode b_M_decode 9 = .ok (.if_icmp .ge 32, 3) := by decide +kernel
theorem d_M_decode_12 : decode b_M_decode 12 = .ok (.iload_n 3, 1) := by decide +kernel
theorem d_M_decode_13 : decode b_M_decode 13 = .ok (.invokestatic 100, 3) := by decide +kernel
theorem d_M_decode_16 : decode b_M_decode 16 = .ok (.ifCond .ne 6, 3) := by decide +kernel
theorem d_M_decode_19 : decode b_M_decode 19 = .ok (.goto 16, 3) := by decide +kernel
theorem d_M_decode_22 : decode b_M_decode 22 = .ok (.iload_n 1, 1) := by decide +kernel
theorem d_M_decode_23 : decode b_M_decode 23 = .ok (.iload_n 0, 1) := by decide +kernel
theorem d_M_decode_24 : decode b_M_decode 24 = .ok (.iload_n 3, 1) := by decide +kernel
theorem d_M_decode_25 : decode b_M_decode 25 = .ok (.ishr, 1) := by decide +kernel
theorem d_M_decode_26 : decode b_M_decode 26 = .ok (.iconst 1, 1) := by decide +kernel
theorem d_M_decode_27 : decode b_M_decode 27 = .ok (.iand, 1) := by decide +kernel
theorem d_M_decode_28 : decode b_M_decode 28 = .ok (.iload_n 2, 1) := by decide +kernel
theorem d_M_decode_29 : decode b_M_decode 29 = .ok (.ishl, 1) := by decide +kernel
theorem d_M_decode_30 : decode b_M_decode 30 = .ok (.ior, 1) := by decide +kernel
theorem d_M_decode_31 : decode b_M_decode 31 = .ok (.istore_n 1, 1) := by decide +kernel
theorem d_M_decode_32 : decode b_M_decode 32 = .ok (.iinc 2 1, 3) := by decide +kernel
theorem d_M_decode_35 : decode b_M_decode 35 = .ok (.iinc 3 1, 3) := by decide +kernel
theorem d_M_decode_38 : decode b_M_decode 38 = .ok (.goto (-32), 3) := by decide +kernel
theorem d_M_decode_41 : decode b_M_decode 41 = .ok (.iload_n 1, 1) := by decide +kernel
theorem d_M_decode_42 : decode b_M_decode 42 = .ok (.ireturn, 1) := by decide +kernel
theorem d_M_read_0 : decode b_M_read 0 = .ok (.aload_n 0, 1) := by decide +kernel
theorem d_M_read_1 : decode b_M_read 1 = .ok (.getfield 16, 3) := by decide +kernel
theorem d_M_read_4 : decode b_M_read 4 = .ok (.bipush 32, 2) := by decide +kernel
theorem d_M_read_6 : decode b_M_read 6 = .ok (.iload_n 1, 1) := by decide +kernel
theorem d_M_read_7 : decode b_M_read 7 = .ok (.imul, 1) := by decide +kernel
theorem d_M_read_8 : decode b_M_read 8 = .ok (.iload_n 2, 1) := by decide +kernel
theorem d_M_read_9 : decode b_M_read 9 = .ok (.iadd, 1) := by decide +kernel
theorem d_M_read_10 : decode b_M_read 10 = .ok (.iaload, 1) := by decide +kernel
theorem d_M_read_11 : decode b_M_read 11 = .ok (.istore_n 3, 1) := by decide +kernel
theorem d_M_read_12 : decode b_M_read 12 = .ok (.iload_n 3, 1) := by decide +kernel
theorem d_M_read_13 : decode b_M_read 13 = .ok (.invokestatic 103, 3) := by decide +kernel
theorem d_M_read_16 : decode b_M_read 16 = .ok (.istore 4, 2) := by decide +kernel
theorem d_M_read_18 : decode b_M_read 18 = .ok (.aload_n 0, 1) := by decide +kernel
theorem d_M_read_19 : decode b_M_read 19 = .ok (.iload_n 3, 1) := by decide +kernel
theorem d_M_read_20 : decode b_M_read 20 = .ok (.invokestatic 106, 3) := by decide +kernel
theorem d_M_read_23 : decode b_M_read 23 = .ok (.iconst 2, 1) := by decide +kernel
theorem d_M_read_24 : decode b_M_read 24 = .ok (.irem, 1) := by decide +kernel
theorem d_M_read_25 : decode b_M_read 25 = .ok (.ifCond .ne 16, 3) := by decide +kernel
theorem d_M_read_28 : decode b_M_read 28 = .ok (.iload 4, 2) := by decide +kernel
theorem d_M_read_30 : decode b_M_read 30 = .ok (.ifCond .eq 7, 3) := by decide +kernel
theorem d_M_read_33 : decode b_M_read 33 = .ok (.iconst 1, 1) := by decide +kernel
theorem d_M_read_34 : decode b_M_read 34 = .ok (.goto 19, 3) := by decide +kernel
theorem d_M_read_37 : decode b_M_read 37 = .ok (.iconst 0, 1) := by decide +kernel
theorem d_M_read_38 : decode b_M_read 38 = .ok (.goto 15, 3) := by decide +kernel
theorem d_M_read_41 : decode b_M_read 41 = .ok (.iload 4, 2) := by decide +kernel
theorem d_M_read_43 : decode b_M_read 43 = .ok (.bipush 22, 2) := by decide +kernel
theorem d_M_read_45 : decode b_M_read 45 = .ok (.if_icmp .lt 7, 3) := by decide +kernel
theorem d_M_read_48 : decode b_M_read 48 = .ok (.iconst 1, 1) := by decide +kernel
theorem d_M_read_49 : decode b_M_read 49 = .ok (.goto 4, 3) := by decide +kernel
theorem d_M_read_52 : decode b_M_read 52 = .ok (.iconst 0, 1) := by decide +kernel
theorem d_M_read_53 : decode b_M_read 53 = .ok (.putfield 109, 3) := by decide +kernel
theorem d_M_read_56 : decode b_M_read 56 = .ok (.aload_n 0, 1) := by decide +kernel
theorem d_M_read_57 : decode b_M_read 57 = .ok (.getfield 109, 3) := by decide +kernel
theorem d_M_read_60 : decode b_M_read 60 = .ok (.ifCond .eq 5, 3) := by decide +kernel
theorem d_M_read_63 : decode b_M_read 63 = .ok (.iconst 0, 1) := by decide +kernel
theorem d_M_read_64 : decode b_M_read 64 = .ok (.ireturn, 1) := by decide +kernel
theorem d_M_read_65 : decode b_M_read 65 = .ok (.iload_n 3, 1) := by decide +kernel
theorem d_M_read_66 : decode b_M_read 66 = .ok (.invokestatic 106, 3) := by decide +kernel
theorem d_M_read_69 : decode b_M_read 69 = .ok (.iconst 2, 1) := by decide +kernel
theorem d_M_read_70 : decode b_M_read 70 = .ok (.irem, 1) := by decide +kernel
theorem d_M_read_71 : decode b_M_read 71 = .ok (.iconst 1, 1) := by decide +kernel
theorem d_M_read_72 : decode b_M_read 72 = .ok (.if_icmp .ne 32, 3) := by decide +kernel
theorem d_M_read_75 : decode b_M_read 75 = .ok (.iload_n 3, 1) := by decide +kernel
theorem d_M_read_76 : decode b_M_read 76 = .ok (.iconst 1, 1) := by decide +kernel
theorem d_M_read_77 : decode b_M_read 77 = .ok (.iload 4, 2) := by decide +kernel
theorem d_M_read_79 : decode b_M_read 79 = .ok (.ishl, 1) := by decide +kernel
theorem d_M_read_80 : decode b_M_read 80 = .ok (.ixor, 1) := by decide +kernel
theorem d_M_read_81 : decode b_M_read 81 = .ok (.istore_n 3, 1) := by decide +kernel
theorem d_M_read_82 : decode b_M_read 82 = .ok (.aload_n 0, 1) := by decide +kernel
theorem d_M_read_83 : decode b_M_read 83 = .ok (.getfield 16, 3) := by decide +kernel
theorem d_M_read_86 : decode b_M_read 86 = .ok (.bipush 32, 2) := by decide +kernel
theorem d_M_read_88 : decode b_M_read 88 = .ok (.iload_n 1, 1) := by decide +kernel
theorem d_M_read_89 : decode b_M_read 89 = .ok (.imul, 1) := by decide +kernel
theorem d_M_read_90 : decode b_M_read 90 = .ok (.iload_n 2, 1) := by decide +kernel
theorem d_M_read_91 : decode b_M_read 91 = .ok (.iadd, 1) := by decide +kernel
theorem d_M_read_92 : decode b_M_read 92 = .ok (.iload_n 3, 1) := by decide +kernel
theorem d_M_read_93 : decode b_M_read 93 = .ok (.iastore, 1) := by decide +kernel
theorem d_M_read_94 : decode b_M_read 94 = .ok (.aload_n 0, 1) := by decide +kernel
theorem d_M_read_95 : decode b_M_read 95 = .ok (.getfield 38, 3) := by decide +kernel
theorem d_M_read_98 : decode b_M_read 98 = .ok (.iload_n 1, 1) := by decide +kernel
theorem d_M_read_99 : decode b_M_read 99 = .ok (.dup2, 1) := by decide +kernel
theorem d_M_read_100 : decode b_M_read 100 = .ok (.iaload, 1) := by decide +kernel
theorem d_M_read_101 : decode b_M_read 101 = .ok (.iconst 1, 1) := by decide +kernel
theorem d_M_read_102 : decode b_M_read 102 = .ok (.iadd, 1) := by decide +kernel
theorem d_M_read_103 : decode b_M_read 103 = .ok (.iastore, 1) := by decide +kernel
theorem d_M_read_104 : decode b_M_read 104 = .ok (.iload_n 3, 1) := by decide +kernel
theorem d_M_read_105 : decode b_M_read 105 = .ok (.invokestatic 112, 3) := by decide +kernel
theorem d_M_read_108 : decode b_M_read 108 = .ok (.ireturn, 1) := by decide +kernel
theorem d_M_canStart_0 : decode b_M_canStart 0 = .ok (.iconst 0, 1) := by decide +kernel
theorem d_M_canStart_1 : decode b_M_canStart 1 = .ok (.istore_n 1, 1) := by decide +kernel
theorem d_M_canStart_2 : decode b_M_canStart 2 = .ok (.iload_n 1, 1) := by decide +kernel
theorem d_M_canStart_3 : decode b_M_canStart 3 = .ok (.aload_n 0, 1) := by decide +kernel
theorem d_M_canStart_4 : decode b_M_canStart 4 = .ok (.getfield 93, 3) := by decide +kernel
theorem d_M_canStart_7 : decode b_M_canStart 7 = .ok (.if_icmp .ge 67, 3) := by decide +kernel
theorem d_M_canStart_10 : decode b_M_canStart 10 = .ok (.aload_n 0, 1) := by decide +kernel
theorem d_M_canStart_11 : decode b_M_canStart 11 = .ok (.getfield 7, 3) := by decide +kernel
theorem d_M_canStart_14 : decode b_M_canStart 14 = .ok (.iload_n 1, 1) := by decide +kernel
theorem d_M_canStart_15 : decode b_M_canStart 15 = .ok (.iaload, 1) := by decide +kernel
theorem d_M_canStart_16 : decode b_M_canStart 16 = .ok (.invokestatic 85, 3) := by decide +kernel
theorem d_M_canStart_19 : decode b_M_canStart 19 = .ok (.istore_n 2, 1) := by decide +kernel
theorem d_M_canStart_20 : decode b_M_canStart 20 = .ok (.iload_n 2, 1) := by decide +kernel
theorem d_M_canStart_21 : decode b_M_canStart 21 = .ok (.bipush 7, 2) := by decide +kernel
theorem d_M_canStart_23 : decode b_M_canStart 23 = .ok (.if_icmp .ne 20, 3) := by decide +kernel
theorem d_M_canStart_26 : decode b_M_canStart 26 = .ok (.aload_n 0, 1) := by decide +kernel
theorem d_M_canStart_27 : decode b_M_canStart 27 = .ok (.getfield 7, 3) := by decide +kernel
theorem d_M_canStart_30 : decode b_M_canStart 30 = .ok (.iload_n 1, 1) := by decide +kernel
theorem d_M_canStart_31 : decode b_M_canStart 31 = .ok (.iaload, 1) := by decide +kernel
theorem d_M_canStart_32 : decode b_M_canStart 32 = .ok (.iconst 1, 1) := by decide +kernel
theorem d_M_canStart_33 : decode b_M_canStart 33 = .ok (.invokestatic 81, 3) := by decide +kernel
theorem d_M_canStart_36 : decode b_M_canStart 36 = .ok (.aload_n 0, 1) := by decide +kernel
theorem d_M_canStart_37 : decode b_M_canStart 37 = .ok (.getfield 93, 3) := by decide +kernel
theorem d_M_canStart_40 : decode b_M_canStart 40 = .ok (.if_icmp .ge 26, 3) := by decide +kernel
theorem d_M_canStart_43 : decode b_M_canStart 43 = .ok (.iload_n 2, 1) := by decide +kernel
theorem d_M_canStart_44 : decode b_M_canStart 44 = .ok (.bipush 8, 2) := by decide +kernel
theorem d_M_canStart_46 : decode b_M_canStart 46 = .ok (.if_icmp .ne 22, 3) := by decide +kernel
theorem d_M_canStart_49 : decode b_M_canStart 49 = .ok (.aload_n 0, 1) := by decide +kernel
theorem d_M_canStart_50 : decode b_M_canStart 50 = .ok (.getfield 7, 3) := by decide +kernel
theorem d_M_canStart_53 : decode b_M_canStart 53 = .ok (.iload_n 1, 1) := by decide +kernel
theorem d_M_canStart_54 : decode b_M_canStart 54 = .ok (.iaload, 1) := by decide +kernel
theorem d_M_canStart_55 : decode b_M_canStart 55 = .ok (.iconst 1, 1) := by decide +kernel
theorem d_M_canStart_56 : decode b_M_canStart 56 = .ok (.invokestatic 81, 3) := by decide +kernel
theorem d_M_canStart_59 : decode b_M_canStart 59 = .ok (.aload_n 0, 1) := by decide +kernel
theorem d_M_canStart_60 : decode b_M_canStart 60 = .ok (.getfield 93, 3) := by decide +kernel
theorem d_M_canStart_63 : decode b_M_canStart 63 = .ok (.if_icmp .lt 5, 3) := by decide +kernel
theorem d_M_canStart_66 : decode b_M_canStart 66 = .ok (.iconst 0, 1) := by decide +kernel
theorem d_M_canStart_67 : decode b_M_canStart 67 = .ok (.ireturn, 1) := by decide +kernel
theorem d_M_canStart_68 : decode b_M_canStart 68 = .ok (.iinc 1 1, 3) := by decide +kernel
theorem d_M_canStart_71 : decode b_M_canStart 71 = .ok (.goto (-69), 3) := by decide +kernel
theorem d_M_canStart_74 : decode b_M_canStart 74 = .ok (.aload_n 0, 1) := by decide +kernel
theorem d_M_canStart_75 : decode b_M_canStart 75 = .ok (.getfield 93, 3) := by decide +kernel
theorem d_M_canStart_78 : decode b_M_canStart 78 = .ok (.ifCond .le 7, 3) := by decide +kernel
theorem d_M_canStart_81 : decode b_M_canStart 81 = .ok (.iconst 1, 1) := by decide +kernel
theorem d_M_canStart_82 : decode b_M_canStart 82 = .ok (.goto 4, 3) := by decide +kernel
theorem d_M_canStart_85 : decode b_M_canStart 85 = .ok (.iconst 0, 1) := by decide +kernel
theorem d_M_canStart_86 : decode b_M_canStart 86 = .ok (.ireturn, 1) := by decide +kernel
theorem d_M_blank_0 : decode b_M_blank 0 = .ok (.iconst 0, 1) := by decide +kernel
theorem d_M_blank_1 : decode b_M_blank 1 = .ok (.istore_n 2, 1) := by decide +kernel
theorem d_M_blank_2 : decode b_M_blank 2 = .ok (.iload_n 2, 1) := by decide +kernel
theorem d_M_blank_3 : decode b_M_blank 3 = .ok (.bipush 8, 2) := by decide +kernel
theorem d_M_blank_5 : decode b_M_blank 5 = .ok (.if_icmp .ge 21, 3) := by decide +kernel
theorem d_M_blank_8 : decode b_M_blank 8 = .ok (.aload_n 0, 1) := by decide +kernel
theorem d_M_blank_9 : decode b_M_blank 9 = .ok (.getfield 13, 3) := by decide +kernel
theorem d_M_blank_12 : decode b_M_blank 12 = .ok (.bipush 8, 2) := by decide +kernel
theorem d_M_blank_14 : decode b_M_blank 14 = .ok (.iload_n 1, 1) := by decide +kernel
theorem d_M_blank_15 : decode b_M_blank 15 = .ok (.imul, 1) := by decide +kernel
theorem d_M_blank_16 : decode b_M_blank 16 = .ok (.iload_n 2, 1) := by decide +kernel
theorem d_M_blank_17 : decode b_M_blank 17 = .ok (.iadd, 1) := by decide +kernel
theorem d_M_blank_18 : decode b_M_blank 18 = .ok (.iconst 0, 1) := by decide +kernel
theorem d_M_blank_19 : decode b_M_blank 19 = .ok (.iastore, 1) := by decide +kernel
theorem d_M_blank_20 : decode b_M_blank 20 = .ok (.iinc 2 1, 3) := by decide +kernel
theorem d_M_blank_23 : decode b_M_blank 23 = .ok (.goto (-21), 3) := by decide +kernel
theorem d_M_blank_26 : decode b_M_blank 26 = .ok (.iconst 0, 1) := by decide +kernel
theorem d_M_blank_27 : decode b_M_blank 27 = .ok (.istore_n 2, 1) := by decide +kernel
theorem d_M_blank_28 : decode b_M_blank 28 = .ok (.iload_n 2, 1) := by decide +kernel
theorem d_M_blank_29 : decode b_M_blank 29 = .ok (.bipush 32, 2) := by decide +kernel
theorem d_M_blank_31 : decode b_M_blank 31 = .ok (.if_icmp .ge 24, 3) := by decide +kernel
theorem d_M_blank_34 : decode b_M_blank 34 = .ok (.aload_n 0, 1) := by decide +kernel
theorem d_M_blank_35 : decode b_M_blank 35 = .ok (.getfield 16, 3) := by decide +kernel
theorem d_M_blank_38 : decode b_M_blank 38 = .ok (.bipush 32, 2) := by decide +kernel
theorem d_M_blank_40 : decode b_M_blank 40 = .ok (.iload_n 1, 1) := by decide +kernel
theorem d_M_blank_41 : decode b_M_blank 41 = .ok (.imul, 1) := by decide +kernel
theorem d_M_blank_42 : decode b_M_blank 42 = .ok (.iload_n 2, 1) := by decide +kernel
theorem d_M_blank_43 : decode b_M_blank 43 = .ok (.iadd, 1) := by decide +kernel
theorem d_M_blank_44 : decode b_M_blank 44 = .ok (.iconst 0, 1) := by decide +kernel
theorem d_M_blank_45 : decode b_M_blank 45 = .ok (.invokestatic 115, 3) := by decide +kernel
theorem d_M_blank_48 : decode b_M_blank 48 = .ok (.iastore, 1) := by decide +kernel
theorem d_M_blank_49 : decode b_M_blank 49 = .ok (.iinc 2 1, 3) := by decide +kernel
theorem d_M_blank_52 : decode b_M_blank 52 = .ok (.goto (-24), 3) := by decide +kernel
theorem d_M_blank_55 : decode b_M_blank 55 = .ok (.aload_n 0, 1) := by decide +kernel
theorem d_M_blank_56 : decode b_M_blank 56 = .ok (.getfield 19, 3) := by decide +kernel
theorem d_M_blank_59 : decode b_M_blank 59 = .ok (.iload_n 1, 1) := by decide +kernel
theorem d_M_blank_60 : decode b_M_blank 60 = .ok (.iconst 0, 1) := by decide +kernel
theorem d_M_blank_61 : decode b_M_blank 61 = .ok (.iastore, 1) := by decide +kernel
theorem d_M_blank_62 : decode b_M_blank 62 = .ok (.aload_n 0, 1) := by decide +kernel
theorem d_M_blank_63 : decode b_M_blank 63 = .ok (.getfield 28, 3) := by decide +kernel
theorem d_M_blank_66 : decode b_M_blank 66 = .ok (.iload_n 1, 1) := by decide +kernel
theorem d_M_blank_67 : decode b_M_blank 67 = .ok (.iconst 0, 1) := by decide +kernel
theorem d_M_blank_68 : decode b_M_blank 68 = .ok (.iastore, 1) := by decide +kernel
theorem d_M_blank_69 : decode b_M_blank 69 = .ok (.aload_n 0, 1) := by decide +kernel
theorem d_M_blank_70 : decode b_M_blank 70 = .ok (.getfield 31, 3) := by decide +kernel
theorem d_M_blank_73 : decode b_M_blank 73 = .ok (.iload_n 1, 1) := by decide +kernel
theorem d_M_blank_74 : decode b_M_blank 74 = .ok (.iconst 0, 1) := by decide +kernel
theorem d_M_blank_75 : decode b_M_blank 75 = .ok (.bastore, 1) := by decide +kernel
theorem d_M_blank_76 : decode b_M_blank 76 = .ok (.aload_n 0, 1) := by decide +kernel
theorem d_M_blank_77 : decode b_M_blank 77 = .ok (.getfield 35, 3) := by decide +kernel
theorem d_M_blank_80 : decode b_M_blank 80 = .ok (.iload_n 1, 1) := by decide +kernel
theorem d_M_blank_81 : decode b_M_blank 81 = .ok (.iconst 0, 1) := by decide +kernel
theorem d_M_blank_82 : decode b_M_blank 82 = .ok (.bastore, 1) := by decide +kernel
theorem d_M_blank_83 : decode b_M_blank 83 = .ok (.aload_n 0, 1) := by decide +kernel
theorem d_M_blank_84 : decode b_M_blank 84 = .ok (.getfield 38, 3) := by decide +kernel
theorem d_M_blank_87 : decode b_M_blank 87 = .ok (.iload_n 1, 1) := by decide +kernel
theorem d_M_blank_88 : decode b_M_blank 88 = .ok (.iconst 0, 1) := by decide +kernel
theorem d_M_blank_89 : decode b_M_blank 89 = .ok (.iastore, 1) := by decide +kernel
theorem d_M_blank_90 : decode b_M_blank 90 = .ok (.aload_n 0, 1) := by decide +kernel
theorem d_M_blank_91 : decode b_M_blank 91 = .ok (.getfield 41, 3) := by decide +kernel
theorem d_M_blank_94 : decode b_M_blank 94 = .ok (.iload_n 1, 1) := by decide +kernel
theorem d_M_blank_95 : decode b_M_blank 95 = .ok (.iconst 0, 1) := by decide +kernel
theorem d_M_blank_96 : decode b_M_blank 96 = .ok (.iastore, 1) := by decide +kernel
theorem d_M_blank_97 : decode b_M_blank 97 = .ok (.return_, 1) := by decide +kernel
theorem d_M_start_0 : decode b_M_start 0 = .ok (.aload_n 0, 1) := by decide +kernel
theorem d_M_start_1 : decode b_M_start 1 = .ok (.iconst 0, 1) := by decide +kernel
theorem d_M_start_2 : decode b_M_start 2 = .ok (.putfield 77, 3) := by decide +kernel
theorem d_M_start_5 : decode b_M_start 5 = .ok (.aload_n 0, 1) := by decide +kernel
theorem d_M_start_6 : decode b_M_start 6 = .ok (.invokevirtual 118, 3) := by decide +kernel
theorem d_M_start_9 : decode b_M_start 9 = .ok (.ifCond .ne 5, 3) := by decide +kernel
theorem d_M_start_12 : decode b_M_start 12 = .ok (.iconst 0, 1) := by decide +kernel
theorem d_M_start_13 : decode b_M_start 13 = .ok (.ireturn, 1) := by decide +kernel
theorem d_M_start_14 : decode b_M_start 14 = .ok (.aload_n 0, 1) := by decide +kernel
theorem d_M_start_15 : decode b_M_start 15 = .ok (.iconst 1, 1) := by decide +kernel
theorem d_M_start_16 : decode b_M_start 16 = .ok (.putfield 89, 3) := by decide +kernel
theorem d_M_start_19 : decode b_M_start 19 = .ok (.aload_n 0, 1) := by decide +kernel
theorem d_M_start_20 : decode b_M_start 20 = .ok (.iconst 0, 1) := by decide +kernel
theorem d_M_start_21 : decode b_M_start 21 = .ok (.putfield 122, 3) := by decide +kernel
theorem d_M_start_24 : decode b_M_start 24 = .ok (.aload_n 0, 1) := by decide +kernel
theorem d_M_start_25 : decode b_M_start 25 = .ok (.iconst 0, 1) := by decide +kernel
theorem d_M_start_26 : decode b_M_start 26 = .ok (.putfield 125, 3) := by decide +kernel
theorem d_M_start_29 : decode b_M_start 29 = .ok (.aload_n 0, 1) := by decide +kernel
theorem d_M_start_30 : decode b_M_start 30 = .ok (.iconst 0, 1) := by decide +kernel
theorem d_M_start_31 : decode b_M_start 31 = .ok (.putfield 128, 3) := by decide +kernel
theorem d_M_start_34 : decode b_M_start 34 = .ok (.aload_n 0, 1) := by decide +kernel
theorem d_M_start_35 : decode b_M_start 35 = .ok (.iconst 0, 1) := by decide +kernel
theorem d_M_start_36 : decode b_M_start 36 = .ok (.putfield 131, 3) := by decide +kernel
theorem d_M_start_39 : decode b_M_start 39 = .ok (.aload_n 0, 1) := by decide +kernel
theorem d_M_start_40 : decode b_M_start 40 = .ok (.iconst 0, 1) := by decide +kernel
theorem d_M_start_41 : decode b_M_start 41 = .ok (.putfield 134, 3) := by decide +kernel
theorem d_M_start_44 : decode b_M_start 44 = .ok (.aload_n 0, 1) := by decide +kernel
theorem d_M_start_45 : decode b_M_start 45 = .ok (.iconst 0, 1) := by decide +kernel
theorem d_M_start_46 : decode b_M_start 46 = .ok (.putfield 137, 3) := by decide +kernel
theorem d_M_start_49 : decode b_M_start 49 = .ok (.aload_n 0, 1) := by decide +kernel
theorem d_M_start_50 : decode b_M_start 50 = .ok (.iconst 0, 1) := by decide +kernel
theorem d_M_start_51 : decode b_M_start 51 = .ok (.putfield 140, 3) := by decide +kernel
theorem d_M_start_54 : decode b_M_start 54 = .ok (.aload_n 0, 1) := by decide +kernel
theorem d_M_start_55 : decode b_M_start 55 = .ok (.iconst 0, 1) := by decide +kernel
theorem d_M_start_56 : decode b_M_start 56 = .ok (.putfield 143, 3) := by decide +kernel
theorem d_M_start_59 : decode b_M_start 59 = .ok (.aload_n 0, 1) := by decide +kernel
theorem d_M_start_60 : decode b_M_start 60 = .ok (.iconst 0, 1) := by decide +kernel
theorem d_M_start_61 : decode b_M_start 61 = .ok (.putfield 146, 3) := by decide +kernel
theorem d_M_start_64 : decode b_M_start 64 = .ok (.aload_n 0, 1) := by decide +kernel
theorem d_M_start_65 : decode b_M_start 65 = .ok (.iconst 0, 1) := by decide +kernel
theorem d_M_start_66 : decode b_M_start 66 = .ok (.putfield 149, 3) := by decide +kernel
theorem d_M_start_69 : decode b_M_start 69 = .ok (.iconst 0, 1) := by decide +kernel
theorem d_M_start_70 : decode b_M_start 70 = .ok (.istore_n 1, 1) := by decide +kernel
theorem d_M_start_71 : decode b_M_start 71 = .ok (.iload_n 1, 1) := by decide +kernel
theorem d_M_start_72 : decode b_M_start 72 = .ok (.iconst 3, 1) := by decide +kernel
theorem d_M_start_73 : decode b_M_start 73 = .ok (.if_icmp .ge 29, 3) := by decide +kernel
theorem d_M_start_76 : decode b_M_start 76 = .ok (.aload_n 0, 1) := by decide +kernel
theorem d_M_start_77 : decode b_M_start 77 = .ok (.iload_n 1, 1) := by decide +kernel
theorem d_M_start_78 : decode b_M_start 78 = .ok (.invokevirtual 152, 3) := by decide +kernel
theorem d_M_start_81 : decode b_M_start 81 = .ok (.aload_n 0, 1) := by decide +kernel
theorem d_M_start_82 : decode b_M_start 82 = .ok (.getfield 22, 3) := by decide +kernel
theorem d_M_start_85 : decode b_M_start 85 = .ok (.iload_n 1, 1) := by decide +kernel
theorem d_M_start_86 : decode b_M_start 86 = .ok (.iconst 0, 1) := by decide +kernel
theorem d_M_start_87 : decode b_M_start 87 = .ok (.iastore, 1) := by decide +kernel
theorem d_M_start_88 : decode b_M_start 88 = .ok (.aload_n 0, 1) := by decide +kernel
theorem d_M_start_89 : decode b_M_start 89 = .ok (.getfield 25, 3) := by decide +kernel
theorem d_M_start_92 : decode b_M_start 92 = .ok (.iload_n 1, 1) := by decide +kernel
theorem d_M_start_93 : decode b_M_start 93 = .ok (.bipush 32, 2) := by decide +kernel
theorem d_M_start_95 : decode b_M_start 95 = .ok (.iastore, 1) := by decide +kernel
theorem d_M_start_96 : decode b_M_start 96 = .ok (.iinc 1 1, 3) := by decide +kernel
theorem d_M_start_99 : decode b_M_start 99 = .ok (.goto (-28), 3) := by decide +kernel
theorem d_M_start_102 : decode b_M_start 102 = .ok (.iconst 0, 1) := by decide +kernel
theorem d_M_start_103 : decode b_M_start 103 = .ok (.istore_n 1, 1) := by decide +kernel
theorem d_M_start_104 : decode b_M_start 104 = .ok (.iload_n 1, 1) := by decide +kernel
theorem d_M_start_105 : decode b_M_start 105 = .ok (.bipush 8, 2) := by decide +kernel
theorem d_M_start_107 : decode b_M_start 107 = .ok (.if_icmp .ge 16, 3) := by decide +kernel
theorem d_M_start_110 : decode b_M_start 110 = .ok (.aload_n 0, 1) := by decide +kernel
theorem d_M_start_111 : decode b_M_start 111 = .ok (.getfield 68, 3) := by decide +kernel
theorem d_M_start_114 : decode b_M_start 114 = .ok (.iload_n 1, 1) := by decide +kernel
theorem d_M_start_115 : decode b_M_start 115 = .ok (.iconst 0, 1) := by decide +kernel
theorem d_M_start_116 : decode b_M_start 116 = .ok (.iastore, 1) := by decide +kernel
theorem d_M_start_117 : decode b_M_start 117 = .ok (.iinc 1 1, 3) := by decide +kernel
theorem d_M_start_120 : decode b_M_start 120 = .ok (.goto (-16), 3) := by decide +kernel
theorem d_M_start_123 : decode b_M_start 123 = .ok (.iconst 0, 1) := by decide +kernel
theorem d_M_start_124 : decode b_M_start 124 = .ok (.istore_n 1, 1) := by decide +kernel
theorem d_M_start_125 : decode b_M_start 125 = .ok (.iload_n 1, 1) := by decide +kernel
theorem d_M_start_126 : decode b_M_start 126 = .ok (.bipush 32, 2) := by decide +kernel
theorem d_M_start_128 : decode b_M_start 128 = .ok (.if_icmp .ge 16, 3) := by decide +kernel
theorem d_M_start_131 : decode b_M_start 131 = .ok (.aload_n 0, 1) := by decide +kernel
theorem d_M_start_132 : decode b_M_start 132 = .ok (.getfield 71, 3) := by decide +kernel
theorem d_M_start_135 : decode b_M_start 135 = .ok (.iload_n 1, 1) := by decide +kernel
theorem d_M_start_136 : decode b_M_start 136 = .ok (.iconst 0, 1) := by decide +kernel
theorem d_M_start_137 : decode b_M_start 137 = .ok (.iastore, 1) := by decide +kernel
theorem d_M_start_138 : decode b_M_start 138 = .ok (.iinc 1 1, 3) := by decide +kernel
theorem d_M_start_141 : decode b_M_start 141 = .ok (.goto (-16), 3) := by decide +kernel
theorem d_M_start_144 : decode b_M_start 144 = .ok (.iconst 1, 1) := by decide +kernel
theorem d_M_start_145 : decode b_M_start 145 = .ok (.ireturn, 1) := by decide +kernel
theorem d_M_result_0 : decode b_M_result 0 = .ok (.iload_n 0, 1) := by decide +kernel
theorem d_M_result_1 : decode b_M_result 1 = .ok (.iconst 1, 1) := by decide +kernel
theorem d_M_result_2 : decode b_M_result 2 = .ok (.if_icmp .ne 9, 3) := by decide +kernel
theorem d_M_result_5 : decode b_M_result 5 = .ok (.iload_n 1, 1) := by decide +kernel
theorem d_M_result_6 : decode b_M_result 6 = .ok (.iload_n 2, 1) := by decide +kernel
theorem d_M_result_7 : decode b_M_result 7 = .ok (.iadd, 1) := by decide +kernel
theorem d_M_result_8 : decode b_M_result 8 = .ok (.goto 31, 3) := by decide +kernel
theorem d_M_result_11 : decode b_M_result 11 = .ok (.iload_n 0, 1) := by decide +kernel
theorem d_M_result_12 : decode b_M_result 12 = .ok (.iconst 2, 1) := by decide +kernel
theorem d_M_result_13 : decode b_M_result 13 = .ok (.if_icmp .ne 9, 3) := by decide +kernel
theorem d_M_result_16 : decode b_M_result 16 = .ok (.iload_n 1, 1) := by decide +kernel
theorem d_M_result_17 : decode b_M_result 17 = .ok (.iload_n 2, 1) := by decide +kernel
theorem d_M_result_18 : decode b_M_result 18 = .ok (.isub, 1) := by decide +kernel
theorem d_M_result_19 : decode b_M_result 19 = .ok (.goto 20, 3) := by decide +kernel
theorem d_M_result_22 : decode b_M_result 22 = .ok (.iload_n 0, 1) := by decide +kernel
theorem d_M_result_23 : decode b_M_result 23 = .ok (.iconst 3, 1) := by decide +kernel
theorem d_M_result_24 : decode b_M_result 24 = .ok (.if_icmp .ne 9, 3) := by decide +kernel
theorem d_M_result_27 : decode b_M_result 27 = .ok (.iload_n 1, 1) := by decide +kernel
theorem d_M_result_28 : decode b_M_result 28 = .ok (.iload_n 2, 1) := by decide +kernel
theorem d_M_result_29 : decode b_M_result 29 = .ok (.ixor, 1) := by decide +kernel
theorem d_M_result_30 : decode b_M_result 30 = .ok (.goto 9, 3) := by decide +kernel
theorem d_M_result_33 : decode b_M_result 33 = .ok (.iload_n 1, 1) := by decide +kernel
theorem d_M_result_34 : decode b_M_result 34 = .ok (.iload_n 2, 1) := by decide +kernel
theorem d_M_result_35 : decode b_M_result 35 = .ok (.bipush 15, 2) := by decide +kernel
theorem d_M_result_37 : decode b_M_result 37 = .ok (.iand, 1) := by decide +kernel
theorem d_M_result_38 : decode b_M_result 38 = .ok (.iushr, 1) := by decide +kernel
theorem d_M_result_39 : decode b_M_result 39 = .ok (.ldc 156, 2) := by decide +kernel
theorem d_M_result_41 : decode b_M_result 41 = .ok (.iand, 1) := by decide +kernel
theorem d_M_result_42 : decode b_M_result 42 = .ok (.ireturn, 1) := by decide +kernel
theorem d_M_perfectStep_0 : decode b_M_perfectStep 0 = .ok (.aload_n 0, 1) := by decide +kernel
theorem d_M_perfectStep_1 : decode b_M_perfectStep 1 = .ok (.getfield 7, 3) := by decide +kernel
theorem d_M_perfectStep_4 : decode b_M_perfectStep 4 = .ok (.aload_n 0, 1) := by decide +kernel
theorem d_M_perfectStep_5 : decode b_M_perfectStep 5 = .ok (.getfield 143, 3) := by decide +kernel
theorem d_M_perfectStep_8 : decode b_M_perfectStep 8 = .ok (.iaload, 1) := by decide +kernel
theorem d_M_perfectStep_9 : decode b_M_perfectStep 9 = .ok (.istore_n 1, 1) := by decide +kernel
theorem d_M_perfectStep_10 : decode b_M_perfectStep 10 = .ok (.iload_n 1, 1) := by decide +kernel
theorem d_M_perfectStep_11 : decode b_M_perfectStep 11 = .ok (.iconst 0, 1) := by decide +kernel
theorem d_M_perfectStep_12 : decode b_M_perfectStep 12 = .ok (.invokestatic 81, 3) := by decide +kernel
theorem d_M_perfectStep_15 : decode b_M_perfectStep 15 = .ok (.istore_n 2, 1) := by decide +kernel
theorem d_M_perfectStep_16 : decode b_M_perfectStep 16 = .ok (.iload_n 1, 1) := by decide +kernel
theorem d_M_perfectStep_17 : decode b_M_perfectStep 17 = .ok (.iconst 1, 1) := by decide +kernel
theorem d_M_perfectStep_18 : decode b_M_perfectStep 18 = .ok (.invokestatic 81, 3) := by decide +kernel
theorem d_M_perfectStep_21 : decode b_M_perfectStep 21 = .ok (.istore_n 3, 1) := by decide +kernel
theorem d_M_perfectStep_22 : decode b_M_perfectStep 22 = .ok (.iload_n 1, 1) := by decide +kernel
theorem d_M_perfectStep_23 : decode b_M_perfectStep 23 = .ok (.iconst 2, 1) := by decide +kernel
theorem d_M_perfectStep_24 : decode b_M_perfectStep 24 = .ok (.invokestatic 81, 3) := by decide +kernel
theorem d_M_perfectStep_27 : decode b_M_perfectStep 27 = .ok (.istore 4, 2) := by decide +kernel
theorem d_M_perfectStep_29 : decode b_M_perfectStep 29 = .ok (.aload_n 0, 1) := by decide +kernel
theorem d_M_perfectStep_30 : decode b_M_perfectStep 30 = .ok (.aload_n 0, 1) := by decide +kernel
theorem d_M_perfectStep_31 : decode b_M_perfectStep 31 = .ok (.getfield 143, 3) := by decide +kernel
theorem d_M_perfectStep_34 : decode b_M_perfectStep 34 = .ok (.iconst 1, 1) := by decide +kernel
theorem d_M_perfectStep_35 : decode b_M_perfectStep 35 = .ok (.iadd, 1) := by decide +kernel
theorem d_M_perfectStep_36 : decode b_M_perfectStep 36 = .ok (.aload_n 0, 1) := by decide +kernel
theorem d_M_perfectStep_37 : decode b_M_perfectStep 37 = .ok (.getfield 93, 3) := by decide +kernel
theorem d_M_perfectStep_40 : decode b_M_perfectStep 40 = .ok (.irem, 1) := by decide +kernel
theorem d_M_perfectStep_41 : decode b_M_perfectStep 41 = .ok (.putfield 143, 3) := by decide +kernel
theorem d_M_perfectStep_44 : decode b_M_perfectStep 44 = .ok (.iload_n 1, 1) := by decide +kernel
theorem d_M_perfectStep_45 : decode b_M_perfectStep 45 = .ok (.invokestatic 85, 3) := by decide +kernel
theorem d_M_perfectStep_48 : decode b_M_perfectStep 48 = .ok (.tableswitch 233 0 9 #[56, 73, 73, 73, 73, 102, 128, 154, 171, 179], 56) := by decide +kernel
theorem d_M_perfectStep_104 : decode b_M_perfectStep 104 = .ok (.aload_n 0, 1) := by decide +kernel
theorem d_M_perfectStep_105 : decode b_M_perfectStep 105 = .ok (.getfield 68, 3) := by decide +kernel
theorem d_M_perfectStep_108 : decode b_M_perfectStep 108 = .ok (.iload_n 2, 1) := by decide +kernel
theorem d_M_perfectStep_109 : decode b_M_perfectStep 109 = .ok (.sipush 256, 3) := by decide +kernel
theorem d_M_perfectStep_112 : decode b_M_perfectStep 112 = .ok (.iload_n 3, 1) := by decide +kernel
theorem d_M_perfectStep_113 : decode b_M_perfectStep 113 = .ok (.imul, 1) := by decide +kernel
theorem d_M_perfectStep_114 : decode b_M_perfectStep 114 = .ok (.iload 4, 2) := by decide +kernel
theorem d_M_perfectStep_116 : decode b_M_perfectStep 116 = .ok (.iadd, 1) := by decide +kernel
theorem d_M_perfectStep_117 : decode b_M_perfectStep 117 = .ok (.iastore, 1) := by decide +kernel
theorem d_M_perfectStep_118 : decode b_M_perfectStep 118 = .ok (.goto 198, 3) := by decide +kernel
theorem d_M_perfectStep_121 : decode b_M_perfectStep 121 = .ok (.aload_n 0, 1) := by decide +kernel
theorem d_M_perfectStep_122 : decode b_M_perfectStep 122 = .ok (.getfield 68, 3) := by decide +kernel
theorem d_M_perfectStep_125 : decode b_M_perfectStep 125 = .ok (.iload_n 2, 1) := by decide +kernel
theorem d_M_perfectStep_126 : decode b_M_perfectStep 126 = .ok (.iload_n 1, 1) := by decide +kernel
theorem d_M_perfectStep_127 : decode b_M_perfectStep 127 = .ok (.invokestatic 85, 3) := by decide +kernel
theorem d_M_perfectStep_130 : decode b_M_perfectStep 130 = .ok (.aload_n 0, 1) := by decide +kernel
theorem d_M_perfectStep_131 : decode b_M_perfectStep 131 = .ok (.getfield 68, 3) := by decide +kernel
theorem d_M_perfectStep_134 : decode b_M_perfectStep 134 = .ok (.iload_n 3, 1) := by decide +kernel
theorem d_M_perfectStep_135 : decode b_M_perfectStep 135 = .ok (.iaload, 1) := by decide +kernel
theorem d_M_perfectStep_136 : decode b_M_perfectStep 136 = .ok (.aload_n 0, 1) := by decide +kernel
theorem d_M_perfectStep_137 : decode b_M_perfectStep 137 = .ok (.getfield 68, 3) := by decide +kernel
theorem d_M_perfectStep_140 : decode b_M_perfectStep 140 = .ok (.iload 4, 2) := by decide +kernel
theorem d_M_perfectStep_142 : decode b_M_perfectStep 142 = .ok (.iaload, 1) := by decide +kernel
theorem d_M_perfectStep_143 : decode b_M_perfectStep 143 = .ok (.invokestatic 157, 3) := by decide +kernel
theorem d_M_perfectStep_146 : decode b_M_perfectStep 146 = .ok (.iastore, 1) := by decide +kernel
theorem d_M_perfectStep_147 : decode b_M_perfectStep 147 = .ok (.goto 169, 3) := by decide +kernel
theorem d_M_perfectStep_150 : decode b_M_perfectStep 150 = .ok (.aload_n 0, 1) := by decide +kernel
theorem d_M_perfectStep_151 : decode b_M_perfectStep 151 = .ok (.getfield 68, 3) := by decide +kernel
theorem d_M_perfectStep_154 : decode b_M_perfectStep 154 = .ok (.iload_n 2, 1) := by decide +kernel
theorem d_M_perfectStep_155 : decode b_M_perfectStep 155 = .ok (.aload_n 0, 1) := by decide +kernel
theorem d_M_perfectStep_156 : decode b_M_perfectStep 156 = .ok (.getfield 71, 3) := by decide +kernel
theorem d_M_perfectStep_159 : decode b_M_perfectStep 159 = .ok (.aload_n 0, 1) := by decide +kernel
theorem d_M_perfectStep_160 : decode b_M_perfectStep 160 = .ok (.getfield 68, 3) := by decide +kernel
theorem d_M_perfectStep_163 : decode b_M_perfectStep 163 = .ok (.iload_n 3, 1) := by decide +kernel
theorem d_M_perfectStep_164 : decode b_M_perfectStep 164 = .ok (.iaload, 1) := by decide +kernel
theorem d_M_perfectStep_165 : decode b_M_perfectStep 165 = .ok (.iload 4, 2) := by decide +kernel
theorem d_M_perfectStep_167 : decode b_M_perfectStep 167 = .ok (.iadd, 1) := by decide +kernel
theorem d_M_perfectStep_168 : decode b_M_perfectStep 168 = .ok (.bipush 32, 2) := by decide +kernel
theorem d_M_perfectStep_170 : decode b_M_perfectStep 170 = .ok (.irem, 1) := by decide +kernel
theorem d_M_perfectStep_171 : decode b_M_perfectStep 171 = .ok (.iaload, 1) := by decide +kernel
theorem d_M_perfectStep_172 : decode b_M_perfectStep 172 = .ok (.iastore, 1) := by decide +kernel
theorem d_M_perfectStep_173 : decode b_M_perfectStep 173 = .ok (.goto 143, 3) := by decide +kernel
theorem d_M_perfectStep_176 : decode b_M_perfectStep 176 = .ok (.aload_n 0, 1) := by decide +kernel
theorem d_M_perfectStep_177 : decode b_M_perfectStep 177 = .ok (.getfield 71, 3) := by decide +kernel
theorem d_M_perfectStep_180 : decode b_M_perfectStep 180 = .ok (.aload_n 0, 1) := by decide +kernel
theorem d_M_perfectStep_181 : decode b_M_perfectStep 181 = .ok (.getfield 68, 3) := by decide +kernel
theorem d_M_perfectStep_184 : decode b_M_perfectStep 184 = .ok (.iload_n 3, 1) := by decide +kernel
theorem d_M_perfectStep_185 : decode b_M_perfectStep 185 = .ok (.iaload, 1) := by decide +kernel
theorem d_M_perfectStep_186 : decode b_M_perfectStep 186 = .ok (.iload 4, 2) := by decide +kernel
theorem d_M_perfectStep_188 : decode b_M_perfectStep 188 = .ok (.iadd, 1) := by decide +kernel
theorem d_M_perfectStep_189 : decode b_M_perfectStep 189 = .ok (.bipush 32, 2) := by decide +kernel
theorem d_M_perfectStep_191 : decode b_M_perfectStep 191 = .ok (.irem, 1) := by decide +kernel
theorem d_M_perfectStep_192 : decode b_M_perfectStep 192 = .ok (.aload_n 0, 1) := by decide +kernel
theorem d_M_perfectStep_193 : decode b_M_perfectStep 193 = .ok (.getfield 68, 3) := by decide +kernel
theorem d_M_perfectStep_196 : decode b_M_perfectStep 196 = .ok (.iload_n 2, 1) := by decide +kernel
theorem d_M_perfectStep_197 : decode b_M_perfectStep 197 = .ok (.iaload, 1) := by decide +kernel
theorem d_M_perfectStep_198 : decode b_M_perfectStep 198 = .ok (.iastore, 1) := by decide +kernel
theorem d_M_perfectStep_199 : decode b_M_perfectStep 199 = .ok (.goto 117, 3) := by decide +kernel
theorem d_M_perfectStep_202 : decode b_M_perfectStep 202 = .ok (.aload_n 0, 1) := by decide +kernel
theorem d_M_perfectStep_203 : decode b_M_perfectStep 203 = .ok (.getfield 68, 3) := by decide +kernel
theorem d_M_perfectStep_206 : decode b_M_perfectStep 206 = .ok (.iload_n 2, 1) := by decide +kernel
theorem d_M_perfectStep_207 : decode b_M_perfectStep 207 = .ok (.iaload, 1) := by decide +kernel
theorem d_M_perfectStep_208 : decode b_M_perfectStep 208 = .ok (.ifCond .ne 108, 3) := by decide +kernel
theorem d_M_perfectStep_211 : decode b_M_perfectStep 211 = .ok (.aload_n 0, 1) := by decide +kernel
theorem d_M_perfectStep_212 : decode b_M_perfectStep 212 = .ok (.iload_n 3, 1) := by decide +kernel
theorem d_M_perfectStep_213 : decode b_M_perfectStep 213 = .ok (.putfield 143, 3) := by decide +kernel
theorem d_M_perfectStep_216 : decode b_M_perfectStep 216 = .ok (.goto 100, 3) := by decide +kernel
theorem d_M_perfectStep_219 : decode b_M_perfectStep 219 = .ok (.aload_n 0, 1) := by decide +kernel
theorem d_M_perfectStep_220 : decode b_M_perfectStep 220 = .ok (.iload_n 3, 1) := by decide +kernel
theorem d_M_perfectStep_221 : decode b_M_perfectStep 221 = .ok (.putfield 143, 3) := by decide +kernel
theorem d_M_perfectStep_224 : decode b_M_perfectStep 224 = .ok (.goto 92, 3) := by decide +kernel
theorem d_M_perfectStep_227 : decode b_M_perfectStep 227 = .ok (.aload_n 0, 1) := by decide +kernel
theorem d_M_perfectStep_228 : decode b_M_perfectStep 228 = .ok (.getfield 68, 3) := by decide +kernel
theorem d_M_perfectStep_231 : decode b_M_perfectStep 231 = .ok (.iload_n 2, 1) := by decide +kernel
theorem d_M_perfectStep_232 : decode b_M_perfectStep 232 = .ok (.aload_n 0, 1) := by decide +kernel
theorem d_M_perfectStep_233 : decode b_M_perfectStep 233 = .ok (.getfield 146, 3) := by decide +kernel
theorem d_M_perfectStep_236 : decode b_M_perfectStep 236 = .ok (.aload_n 0, 1) := by decide +kernel
theorem d_M_perfectStep_237 : decode b_M_perfectStep 237 = .ok (.getfield 134, 3) := by decide +kernel
theorem d_M_perfectStep_240 : decode b_M_perfectStep 240 = .ok (.if_icmp .ge 15, 3) := by decide +kernel
theorem d_M_perfectStep_243 : decode b_M_perfectStep 243 = .ok (.aload_n 0, 1) := by decide +kernel
theorem d_M_perfectStep_244 : decode b_M_perfectStep 244 = .ok (.getfield 62, 3) := by decide +kernel
theorem d_M_perfectStep_247 : decode b_M_perfectStep 247 = .ok (.aload_n 0, 1) := by decide +kernel
theorem d_M_perfectStep_248 : decode b_M_perfectStep 248 = .ok (.getfield 146, 3) := by decide +kernel
theorem d_M_perfectStep_251 : decode b_M_perfectStep 251 = .ok (.iaload, 1) := by decide +kernel
theorem d_M_perfectStep_252 : decode b_M_perfectStep 252 = .ok (.goto 4, 3) := by decide +kernel
theorem d_M_perfectStep_255 : decode b_M_perfectStep 255 = .ok (.iconst 0, 1) := by decide +kernel
theorem d_M_perfectStep_256 : decode b_M_perfectStep 256 = .ok (.iastore, 1) := by decide +kernel
theorem d_M_perfectStep_257 : decode b_M_perfectStep 257 = .ok (.aload_n 0, 1) := by decide +kernel
theorem d_M_perfectStep_258 : decode b_M_perfectStep 258 = .ok (.getfield 146, 3) := by decide +kernel
theorem d_M_perfectStep_261 : decode b_M_perfectStep 261 = .ok (.aload_n 0, 1) := by decide +kernel
theorem d_M_perfectStep_262 : decode b_M_perfectStep 262 = .ok (.getfield 134, 3) := by decide +kernel
theorem d_M_perfectStep_265 : decode b_M_perfectStep 265 = .ok (.if_icmp .ge 51, 3) := by decide +kernel
theorem d_M_perfectStep_268 : decode b_M_perfectStep 268 = .ok (.aload_n 0, 1) := by decide +kernel
theorem d_M_perfectStep_269 : decode b_M_perfectStep 269 = .ok (.dup, 1) := by decide +kernel
theorem d_M_perfectStep_270 : decode b_M_perfectStep 270 = .ok (.getfield 146, 3) := by decide +kernel
theorem d_M_perfectStep_273 : decode b_M_perfectStep 273 = .ok (.iconst 1, 1) := by decide +kernel
theorem d_M_perfectStep_274 : decode b_M_perfectStep 274 = .ok (.iadd, 1) := by decide +kernel
theorem d_M_perfectStep_275 : decode b_M_perfectStep 275 = .ok (.putfield 146, 3) := by decide +kernel
theorem d_M_perfectStep_278 : decode b_M_perfectStep 278 = .ok (.goto 38, 3) := by decide +kernel
theorem d_M_perfectStep_281 : decode b_M_perfectStep 281 = .ok (.aload_n 0, 1) := by decide +kernel
theorem d_M_perfectStep_282 : decode b_M_perfectStep 282 = .ok (.getfield 149, 3) := by decide +kernel
theorem d_M_perfectStep_285 : decode b_M_perfectStep 285 = .ok (.sipush 300, 3) := by decide +kernel
theorem d_M_perfectStep_288 : decode b_M_perfectStep 288 = .ok (.if_icmp .ge 18, 3) := by decide +kernel
theorem d_M_perfectStep_291 : decode b_M_perfectStep 291 = .ok (.aload_n 0, 1) := by decide +kernel
theorem d_M_perfectStep_292 : decode b_M_perfectStep 292 = .ok (.getfield 74, 3) := by decide +kernel
theorem d_M_perfectStep_295 : decode b_M_perfectStep 295 = .ok (.aload_n 0, 1) := by decide +kernel
theorem d_M_perfectStep_296 : decode b_M_perfectStep 296 = .ok (.getfield 149, 3) := by decide +kernel
theorem d_M_perfectStep_299 : decode b_M_perfectStep 299 = .ok (.aload_n 0, 1) := by decide +kernel
theorem d_M_perfectStep_300 : decode b_M_perfectStep 300 = .ok (.getfield 68, 3) := by decide +kernel
theorem d_M_perfectStep_303 : decode b_M_perfectStep 303 = .ok (.iload_n 2, 1) := by decide +kernel
theorem d_M_perfectStep_304 : decode b_M_perfectStep 304 = .ok (.iaload, 1) := by decide +kernel
theorem d_M_perfectStep_305 : decode b_M_perfectStep 305 = .ok (.iastore, 1) := by decide +kernel
theorem d_M_perfectStep_306 : decode b_M_perfectStep 306 = .ok (.aload_n 0, 1) := by decide +kernel
theorem d_M_perfectStep_307 : decode b_M_perfectStep 307 = .ok (.dup, 1) := by decide +kernel
theorem d_M_perfectStep_308 : decode b_M_perfectStep 308 = .ok (.getfield 149, 3) := by decide +kernel
theorem d_M_perfectStep_311 : decode b_M_perfectStep 311 = .ok (.iconst 1, 1) := by decide +kernel
theorem d_M_perfectStep_312 : decode b_M_perfectStep 312 = .ok (.iadd, 1) := by decide +kernel
theorem d_M_perfectStep_313 : decode b_M_perfectStep 313 = .ok (.putfield 149, 3) := by decide +kernel
theorem d_M_perfectStep_316 : decode b_M_perfectStep 316 = .ok (.return_, 1) := by decide +kernel
theorem d_M_instruction_0 : decode b_M_instruction 0 = .ok (.aload_n 0, 1) := by decide +kernel
theorem d_M_instruction_1 : decode b_M_instruction 1 = .ok (.getfield 7, 3) := by decide +kernel
theorem d_M_instruction_4 : decode b_M_instruction 4 = .ok (.aload_n 0, 1) := by decide +kernel
theorem d_M_instruction_5 : decode b_M_instruction 5 = .ok (.getfield 19, 3) := by decide +kernel
theorem d_M_instruction_8 : decode b_M_instruction 8 = .ok (.iload_n 1, 1) := by decide +kernel
theorem d_M_instruction_9 : decode b_M_instruction 9 = .ok (.iaload, 1) := by decide +kernel
theorem d_M_instruction_10 : decode b_M_instruction 10 = .ok (.iaload, 1) := by decide +kernel
theorem d_M_instruction_11 : decode b_M_instruction 11 = .ok (.istore_n 2, 1) := by decide +kernel
theorem d_M_instruction_12 : decode b_M_instruction 12 = .ok (.iload_n 2, 1) := by decide +kernel
theorem d_M_instruction_13 : decode b_M_instruction 13 = .ok (.iconst 0, 1) := by decide +kernel
theorem d_M_instruction_14 : decode b_M_instruction 14 = .ok (.invokestatic 81, 3) := by decide +kernel
theorem d_M_instruction_17 : decode b_M_instruction 17 = .ok (.istore_n 3, 1) := by decide +kernel
theorem d_M_instruction_18 : decode b_M_instruction 18 = .ok (.iload_n 2, 1) := by decide +kernel
theorem d_M_instruction_19 : decode b_M_instruction 19 = .ok (.iconst 1, 1) := by decide +kernel
theorem d_M_instruction_20 : decode b_M_instruction 20 = .ok (.invokestatic 81, 3) := by decide +kernel
theorem d_M_instruction_23 : decode b_M_instruction 23 = .ok (.istore 4, 2) := by decide +kernel
theorem d_M_instruction_25 : decode b_M_instruction 25 = .ok (.iload_n 2, 1) := by decide +kernel
theorem d_M_instruction_26 : decode b_M_instruction 26 = .ok (.iconst 2, 1) := by decide +kernel
theorem d_M_instruction_27 : decode b_M_instruction 27 = .ok (.invokestatic 81, 3) := by decide +kernel
theorem d_M_instruction_30 : decode b_M_instruction 30 = .ok (.istore 5, 2) := by decide +kernel
theorem d_M_instruction_32 : decode b_M_instruction 32 = .ok (.bipush 8, 2) := by decide +kernel
theorem d_M_instruction_34 : decode b_M_instruction 34 = .ok (.iload_n 1, 1) := by decide +kernel
theorem d_M_instruction_35 : decode b_M_instruction 35 = .ok (.imul, 1) := by decide +kernel
theorem d_M_instruction_36 : decode b_M_instruction 36 = .ok (.istore 6, 2) := by decide +kernel
theorem d_M_instruction_38 : decode b_M_instruction 38 = .ok (.aload_n 0, 1) := by decide +kernel
theorem d_M_instruction_39 : decode b_M_instruction 39 = .ok (.getfield 44, 3) := by decide +kernel
theorem d_M_instruction_42 : decode b_M_instruction 42 = .ok (.iload_n 1, 1) := by decide +kernel
theorem d_M_instruction_43 : decode b_M_instruction 43 = .ok (.iconst (-1), 1) := by decide +kernel
theorem d_M_instruction_44 : decode b_M_instruction 44 = .ok (.iastore, 1) := by decide +kernel
theorem d_M_instruction_45 : decode b_M_instruction 45 = .ok (.aload_n 0, 1) := by decide +kernel
theorem d_M_instruction_46 : decode b_M_instruction 46 = .ok (.getfield 47, 3) := by decide +kernel
theorem d_M_instruction_49 : decode b_M_instruction 49 = .ok (.iload_n 1, 1) := by decide +kernel
theorem d_M_instruction_50 : decode b_M_instruction 50 = .ok (.iconst 0, 1) := by decide +kernel
theorem d_M_instruction_51 : decode b_M_instruction 51 = .ok (.bastore, 1) := by decide +kernel
theorem d_M_instruction_52 : decode b_M_instruction 52 = .ok (.aload_n 0, 1) := by decide +kernel
theorem d_M_instruction_53 : decode b_M_instruction 53 = .ok (.getfield 50, 3) := by decide +kernel
theorem d_M_instruction_56 : decode b_M_instruction 56 = .ok (.iload_n 1, 1) := by decide +kernel
theorem d_M_instruction_57 : decode b_M_instruction 57 = .ok (.iconst (-1), 1) := by decide +kernel
theorem d_M_instruction_58 : decode b_M_instruction 58 = .ok (.iastore, 1) := by decide +kernel
theorem d_M_instruction_59 : decode b_M_instruction 59 = .ok (.aload_n 0, 1) := by decide +kernel
theorem d_M_instruction_60 : decode b_M_instruction 60 = .ok (.getfield 53, 3) := by decide +kernel
theorem d_M_instruction_63 : decode b_M_instruction 63 = .ok (.iload_n 1, 1) := by decide +kernel
theorem d_M_instruction_64 : decode b_M_instruction 64 = .ok (.iconst (-1), 1) := by decide +kernel
theorem d_M_instruction_65 : decode b_M_instruction 65 = .ok (.iastore, 1) := by decide +kernel
theorem d_M_instruction_66 : decode b_M_instruction 66 = .ok (.aload_n 0, 1) := by decide +kernel
theorem d_M_instruction_67 : decode b_M_instruction 67 = .ok (.getfield 19, 3) := by decide +kernel
theorem d_M_instruction_70 : decode b_M_instruction 70 = .ok (.iload_n 1, 1) := by decide +kernel
theorem d_M_instruction_71 : decode b_M_instruction 71 = .ok (.aload_n 0, 1) := by decide +kernel
theorem d_M_instruction_72 : decode b_M_instruction 72 = .ok (.getfield 19, 3) := by decide +kernel
theorem d_M_instruction_75 : decode b_M_instruction 75 = .ok (.iload_n 1, 1) := by decide +kernel
theorem d_M_instruction_76 : decode b_M_instruction 76 = .ok (.iaload, 1) := by decide +kernel
theorem d_M_instruction_77 : decode b_M_instruction 77 = .ok (.iconst 1, 1) := by decide +kernel
theorem d_M_instruction_78 : decode b_M_instruction 78 = .ok (.iadd, 1) := by decide +kernel
theorem d_M_instruction_79 : decode b_M_instruction 79 = .ok (.aload_n 0, 1) := by decide +kernel
theorem d_M_instruction_80 : decode b_M_instruction 80 = .ok (.getfield 93, 3) := by decide +kernel
theorem d_M_instruction_83 : decode b_M_instruction 83 = .ok (.irem, 1) := by decide +kernel
theorem d_M_instruction_84 : decode b_M_instruction 84 = .ok (.iastore, 1) := by decide +kernel
theorem d_M_instruction_85 : decode b_M_instruction 85 = .ok (.aload_n 0, 1) := by decide +kernel
theorem d_M_instruction_86 : decode b_M_instruction 86 = .ok (.getfield 35, 3) := by decide +kernel
theorem d_M_instruction_89 : decode b_M_instruction 89 = .ok (.iload_n 1, 1) := by decide +kernel
theorem d_M_instruction_90 : decode b_M_instruction 90 = .ok (.baload, 1) := by decide +kernel
theorem d_M_instruction_91 : decode b_M_instruction 91 = .ok (.ifCond .eq 11, 3) := by decide +kernel
theorem d_M_instruction_94 : decode b_M_instruction 94 = .ok (.aload_n 0, 1) := by decide +kernel
theorem d_M_instruction_95 : decode b_M_instruction 95 = .ok (.getfield 35, 3) := by decide +kernel
theorem d_M_instruction_98 : decode b_M_instruction 98 = .ok (.iload_n 1, 1) := by decide +kernel
theorem d_M_instruction_99 : decode b_M_instruction 99 = .ok (.iconst 0, 1) := by decide +kernel
theorem d_M_instruction_100 : decode b_M_instruction 100 = .ok (.bastore, 1) := by decide +kernel
theorem d_M_instruction_101 : decode b_M_instruction 101 = .ok (.return_, 1) := by decide +kernel
theorem d_M_instruction_102 : decode b_M_instruction 102 = .ok (.iload_n 2, 1) := by decide +kernel
theorem d_M_instruction_103 : decode b_M_instruction 103 = .ok (.invokestatic 85, 3) := by decide +kernel
theorem d_M_instruction_106 : decode b_M_instruction 106 = .ok (.tableswitch 274 0 9 #[54, 75, 75, 75, 75, 114, 157, 222, 245, 256], 54) := by decide +kernel
theorem d_M_instruction_160 : decode b_M_instruction 160 = .ok (.aload_n 0, 1) := by decide +kernel
theorem d_M_instruction_161 : decode b_M_instruction 161 = .ok (.getfield 13, 3) := by decide +kernel
theorem d_M_instruction_164 : decode b_M_instruction 164 = .ok (.iload 6, 2) := by decide +kernel
theorem d_M_instruction_166 : decode b_M_instruction 166 = .ok (.iload_n 3, 1) := by decide +kernel
theorem d_M_instruction_167 : decode b_M_instruction 167 = .ok (.iadd, 1) := by decide +kernel
theorem d_M_instruction_168 : decode b_M_instruction 168 = .ok (.sipush 256, 3) := by decide +kernel
theorem d_M_instruction_171 : decode b_M_instruction 171 = .ok (.iload 4, 2) := by decide +kernel
theorem d_M_instruction_173 : decode b_M_instruction 173 = .ok (.imul, 1) := by decide +kernel
theorem d_M_instruction_174 : decode b_M_instruction 174 = .ok (.iload 5, 2) := by decide +kernel
theorem d_M_instruction_176 : decode b_M_instruction 176 = .ok (.iadd, 1) := by decide +kernel
theorem d_M_instruction_177 : decode b_M_instruction 177 = .ok (.iastore, 1) := by decide +kernel
theorem d_M_instruction_178 : decode b_M_instruction 178 = .ok (.goto 217, 3) := by decide +kernel
theorem d_M_instruction_181 : decode b_M_instruction 181 = .ok (.aload_n 0, 1) := by decide +kernel
theorem d_M_instruction_182 : decode b_M_instruction 182 = .ok (.getfield 13, 3) := by decide +kernel
theorem d_M_instruction_185 : decode b_M_instruction 185 = .ok (.iload 6, 2) := by decide +kernel
theorem d_M_instruction_187 : decode b_M_instruction 187 = .ok (.iload_n 3, 1) := by decide +kernel
theorem d_M_instruction_188 : decode b_M_instruction 188 = .ok (.iadd, 1) := by decide +kernel
theorem d_M_instruction_189 : decode b_M_instruction 189 = .ok (.iload_n 2, 1) := by decide +kernel
theorem d_M_instruction_190 : decode b_M_instruction 190 = .ok (.invokestatic 85, 3) := by decide +kernel
theorem d_M_instruction_193 : decode b_M_instruction 193 = .ok (.aload_n 0, 1) := by decide +kernel
theorem d_M_instruction_194 : decode b_M_instruction 194 = .ok (.getfield 13, 3) := by decide +kernel
theorem d_M_instruction_197 : decode b_M_instruction 197 = .ok (.iload 6, 2) := by decide +kernel
theorem d_M_instruction_199 : decode b_M_instruction 199 = .ok (.iload 4, 2) := by decide +kernel
theorem d_M_instruction_201 : decode b_M_instruction 201 = .ok (.iadd, 1) := by decide +kernel
theorem d_M_instruction_202 : decode b_M_instruction 202 = .ok (.iaload, 1) := by decide +kernel
theorem d_M_instruction_203 : decode b_M_instruction 203 = .ok (.aload_n 0, 1) := by decide +kernel
theorem d_M_instruction_204 : decode b_M_instruction 204 = .ok (.getfield 13, 3) := by decide +kernel
theorem d_M_instruction_207 : decode b_M_instruction 207 = .ok (.iload 6, 2) := by decide +kernel
theorem d_M_instruction_209 : decode b_M_instruction 209 = .ok (.iload 5, 2) := by decide +kernel
theorem d_M_instruction_211 : decode b_M_instruction 211 = .ok (.iadd, 1) := by decide +kernel
theorem d_M_instruction_212 : decode b_M_instruction 212 = .ok (.iaload, 1) := by decide +kernel
theorem d_M_instruction_213 : decode b_M_instruction 213 = .ok (.invokestatic 157, 3) := by decide +kernel
theorem d_M_instruction_216 : decode b_M_instruction 216 = .ok (.iastore, 1) := by decide +kernel
theorem d_M_instruction_217 : decode b_M_instruction 217 = .ok (.goto 178, 3) := by decide +kernel
theorem d_M_instruction_220 : decode b_M_instruction 220 = .ok (.aload_n 0, 1) := by decide +kernel
theorem d_M_instruction_221 : decode b_M_instruction 221 = .ok (.getfield 13, 3) := by decide +kernel
theorem d_M_instruction_224 : decode b_M_instruction 224 = .ok (.iload 6, 2) := by decide +kernel
theorem d_M_instruction_226 : decode b_M_instruction 226 = .ok (.iload_n 3, 1) := by decide +kernel
theorem d_M_instruction_227 : decode b_M_instruction 227 = .ok (.iadd, 1) := by decide +kernel
theorem d_M_instruction_228 : decode b_M_instruction 228 = .ok (.aload_n 0, 1) := by decide +kernel
theorem d_M_instruction_229 : decode b_M_instruction 229 = .ok (.iload_n 1, 1) := by decide +kernel
theorem d_M_instruction_230 : decode b_M_instruction 230 = .ok (.aload_n 0, 1) := by decide +kernel
theorem d_M_instruction_231 : decode b_M_instruction 231 = .ok (.getfield 13, 3) := by decide +kernel
theorem d_M_instruction_234 : decode b_M_instruction 234 = .ok (.iload 6, 2) := by decide +kernel
theorem d_M_instruction_236 : decode b_M_instruction 236 = .ok (.iload 4, 2) := by decide +kernel
theorem d_M_instruction_238 : decode b_M_instruction 238 = .ok (.iadd, 1) := by decide +kernel
theorem d_M_instruction_239 : decode b_M_instruction 239 = .ok (.iaload, 1) := by decide +kernel
theorem d_M_instruction_240 : decode b_M_instruction 240 = .ok (.iload 5, 2) := by decide +kernel
theorem d_M_instruction_242 : decode b_M_instruction 242 = .ok (.iadd, 1) := by decide +kernel
theorem d_M_instruction_243 : decode b_M_instruction 243 = .ok (.bipush 32, 2) := by decide +kernel
theorem d_M_instruction_245 : decode b_M_instruction 245 = .ok (.irem, 1) := by decide +kernel
theorem d_M_instruction_246 : decode b_M_instruction 246 = .ok (.invokevirtual 161, 3) := by decide +kernel
theorem d_M_instruction_249 : decode b_M_instruction 249 = .ok (.iastore, 1) := by decide +kernel
theorem d_M_instruction_250 : decode b_M_instruction 250 = .ok (.aload_n 0, 1) := by decide +kernel
theorem d_M_instruction_251 : decode b_M_instruction 251 = .ok (.getfield 47, 3) := by decide +kernel
theorem d_M_instruction_254 : decode b_M_instruction 254 = .ok (.iload_n 1, 1) := by decide +kernel
theorem d_M_instruction_255 : decode b_M_instruction 255 = .ok (.aload_n 0, 1) := by decide +kernel
theorem d_M_instruction_256 : decode b_M_instruction 256 = .ok (.getfield 109, 3) := by decide +kernel
theorem d_M_instruction_259 : decode b_M_instruction 259 = .ok (.bastore, 1) := by decide +kernel
theorem d_M_instruction_260 : decode b_M_instruction 260 = .ok (.goto 135, 3) := by decide +kernel
theorem d_M_instruction_263 : decode b_M_instruction 263 = .ok (.aload_n 0, 1) := by decide +kernel
theorem d_M_instruction_264 : decode b_M_instruction 264 = .ok (.getfield 53, 3) := by decide +kernel
theorem d_M_instruction_267 : decode b_M_instruction 267 = .ok (.iload_n 1, 1) := by decide +kernel
theorem d_M_instruction_268 : decode b_M_instruction 268 = .ok (.aload_n 0, 1) := by decide +kernel
theorem d_M_instruction_269 : decode b_M_instruction 269 = .ok (.getfield 13, 3) := by decide +kernel
theorem d_M_instruction_272 : decode b_M_instruction 272 = .ok (.iload 6, 2) := by decide +kernel
theorem d_M_instruction_274 : decode b_M_instruction 274 = .ok (.iload 4, 2) := by decide +kernel
theorem d_M_instruction_276 : decode b_M_instruction 276 = .ok (.iadd, 1) := by decide +kernel
theorem d_M_instruction_277 : decode b_M_instruction 277 = .ok (.iaload, 1) := by decide +kernel
theorem d_M_instruction_278 : decode b_M_instruction 278 = .ok (.iload 5, 2) := by decide +kernel
theorem d_M_instruction_280 : decode b_M_instruction 280 = .ok (.iadd, 1) := by decide +kernel
theorem d_M_instruction_281 : decode b_M_instruction 281 = .ok (.bipush 32, 2) := by decide +kernel
theorem d_M_instruction_283 : decode b_M_instruction 283 = .ok (.irem, 1) := by decide +kernel
theorem d_M_instruction_284 : decode b_M_instruction 284 = .ok (.iastore, 1) := by decide +kernel
theorem d_M_instruction_285 : decode b_M_instruction 285 = .ok (.aload_n 0, 1) := by decide +kernel
theorem d_M_instruction_286 : decode b_M_instruction 286 = .ok (.getfield 56, 3) := by decide +kernel
theorem d_M_instruction_289 : decode b_M_instruction 289 = .ok (.iload_n 1, 1) := by decide +kernel
theorem d_M_instruction_290 : decode b_M_instruction 290 = .ok (.aload_n 0, 1) := by decide +kernel
theorem d_M_instruction_291 : decode b_M_instruction 291 = .ok (.getfield 13, 3) := by decide +kernel
theorem d_M_instruction_294 : decode b_M_instruction 294 = .ok (.iload 6, 2) := by decide +kernel
theorem d_M_instruction_296 : decode b_M_instruction 296 = .ok (.iload_n 3, 1) := by decide +kernel
theorem d_M_instruction_297 : decode b_M_instruction 297 = .ok (.iadd, 1) := by decide +kernel
theorem d_M_instruction_298 : decode b_M_instruction 298 = .ok (.iaload, 1) := by decide +kernel
theorem d_M_instruction_299 : decode b_M_instruction 299 = .ok (.iastore, 1) := by decide +kernel
theorem d_M_instruction_300 : decode b_M_instruction 300 = .ok (.aload_n 0, 1) := by decide +kernel
theorem d_M_instruction_301 : decode b_M_instruction 301 = .ok (.getfield 16, 3) := by decide +kernel
theorem d_M_instruction_304 : decode b_M_instruction 304 = .ok (.bipush 32, 2) := by decide +kernel
theorem d_M_instruction_306 : decode b_M_instruction 306 = .ok (.iload_n 1, 1) := by decide +kernel
theorem d_M_instruction_307 : decode b_M_instruction 307 = .ok (.imul, 1) := by decide +kernel
theorem d_M_instruction_308 : decode b_M_instruction 308 = .ok (.aload_n 0, 1) := by decide +kernel
theorem d_M_instruction_309 : decode b_M_instruction 309 = .ok (.getfield 53, 3) := by decide +kernel
theorem d_M_instruction_312 : decode b_M_instruction 312 = .ok (.iload_n 1, 1) := by decide +kernel
theorem d_M_instruction_313 : decode b_M_instruction 313 = .ok (.iaload, 1) := by decide +kernel
theorem d_M_instruction_314 : decode b_M_instruction 314 = .ok (.iadd, 1) := by decide +kernel
theorem d_M_instruction_315 : decode b_M_instruction 315 = .ok (.aload_n 0, 1) := by decide +kernel
theorem d_M_instruction_316 : decode b_M_instruction 316 = .ok (.getfield 56, 3) := by decide +kernel
theorem d_M_instruction_319 : decode b_M_instruction 319 = .ok (.iload_n 1, 1) := by decide +kernel
theorem d_M_instruction_320 : decode b_M_instruction 320 = .ok (.iaload, 1) := by decide +kernel
theorem d_M_instruction_321 : decode b_M_instruction 321 = .ok (.invokestatic 115, 3) := by decide +kernel
theorem d_M_instruction_324 : decode b_M_instruction 324 = .ok (.iastore, 1) := by decide +kernel
theorem d_M_instruction_325 : decode b_M_instruction 325 = .ok (.goto 70, 3) := by decide +kernel
theorem d_M_instruction_328 : decode b_M_instruction 328 = .ok (.aload_n 0, 1) := by decide +kernel
theorem d_M_instruction_329 : decode b_M_instruction 329 = .ok (.getfield 13, 3) := by decide +kernel
theorem d_M_instruction_332 : decode b_M_instruction 332 = .ok (.iload 6, 2) := by decide +kernel
theorem d_M_instruction_334 : decode b_M_instruction 334 = .ok (.iload_n 3, 1) := by decide +kernel
theorem d_M_instruction_335 : decode b_M_instruction 335 = .ok (.iadd, 1) := by decide +kernel
theorem d_M_instruction_336 : decode b_M_instruction 336 = .ok (.iaload, 1) := by decide +kernel
theorem d_M_instruction_337 : decode b_M_instruction 337 = .ok (.ifCond .ne 58, 3) := by decide +kernel
theorem d_M_instruction_340 : decode b_M_instruction 340 = .ok (.aload_n 0, 1) := by decide +kernel
theorem d_M_instruction_341 : decode b_M_instruction 341 = .ok (.getfield 19, 3) := by decide +kernel
theorem d_M_instruction_344 : decode b_M_instruction 344 = .ok (.iload_n 1, 1) := by decide +kernel
theorem d_M_instruction_345 : decode b_M_instruction 345 = .ok (.iload 4, 2) := by decide +kernel
theorem d_M_instruction_347 : decode b_M_instruction 347 = .ok (.iastore, 1) := by decide +kernel
theorem d_M_instruction_348 : decode b_M_instruction 348 = .ok (.goto 47, 3) := by decide +kernel
theorem d_M_instruction_351 : decode b_M_instruction 351 = .ok (.aload_n 0, 1) := by decide +kernel
theorem d_M_instruction_352 : decode b_M_instruction 352 = .ok (.getfield 19, 3) := by decide +kernel
theorem d_M_instruction_355 : decode b_M_instruction 355 = .ok (.iload_n 1, 1) := by decide +kernel
theorem d_M_instruction_356 : decode b_M_instruction 356 = .ok (.iload 4, 2) := by decide +kernel
theorem d_M_instruction_358 : decode b_M_instruction 358 = .ok (.iastore, 1) := by decide +kernel
theorem d_M_instruction_359 : decode b_M_instruction 359 = .ok (.goto 36, 3) := by decide +kernel
theorem d_M_instruction_362 : decode b_M_instruction 362 = .ok (.aload_n 0, 1) := by decide +kernel
theorem d_M_instruction_363 : decode b_M_instruction 363 = .ok (.getfield 50, 3) := by decide +kernel
theorem d_M_instruction_366 : decode b_M_instruction 366 = .ok (.iload_n 1, 1) := by decide +kernel
theorem d_M_instruction_367 : decode b_M_instruction 367 = .ok (.iload_n 3, 1) := by decide +kernel
theorem d_M_instruction_368 : decode b_M_instruction 368 = .ok (.iastore, 1) := by decide +kernel
theorem d_M_instruction_369 : decode b_M_instruction 369 = .ok (.aload_n 0, 1) := by decide +kernel
theorem d_M_instruction_370 : decode b_M_instruction 370 = .ok (.getfield 44, 3) := by decide +kernel
theorem d_M_instruction_373 : decode b_M_instruction 373 = .ok (.iload_n 1, 1) := by decide +kernel
theorem d_M_instruction_374 : decode b_M_instruction 374 = .ok (.bipush (-2), 2) := by decide +kernel
theorem d_M_instruction_376 : decode b_M_instruction 376 = .ok (.iastore, 1) := by decide +kernel
theorem d_M_instruction_377 : decode b_M_instruction 377 = .ok (.goto 18, 3) := by decide +kernel
theorem d_M_instruction_380 : decode b_M_instruction 380 = .ok (.aload_n 0, 1) := by decide +kernel
theorem d_M_instruction_381 : decode b_M_instruction 381 = .ok (.getfield 44, 3) := by decide +kernel
theorem d_M_instruction_384 : decode b_M_instruction 384 = .ok (.iload_n 1, 1) := by decide +kernel
theorem d_M_instruction_385 : decode b_M_instruction 385 = .ok (.aload_n 0, 1) := by decide +kernel
theorem d_M_instruction_386 : decode b_M_instruction 386 = .ok (.getfield 13, 3) := by decide +kernel
theorem d_M_instruction_389 : decode b_M_instruction 389 = .ok (.iload 6, 2) := by decide +kernel
theorem d_M_instruction_391 : decode b_M_instruction 391 = .ok (.iload_n 3, 1) := by decide +kernel
theorem d_M_instruction_392 : decode b_M_instruction 392 = .ok (.iadd, 1) := by decide +kernel
theorem d_M_instruction_393 : decode b_M_instruction 393 = .ok (.iaload, 1) := by decide +kernel
theorem d_M_instruction_394 : decode b_M_instruction 394 = .ok (.iastore, 1) := by decide +kernel
theorem d_M_instruction_395 : decode b_M_instruction 395 = .ok (.aload_n 0, 1) := by decide +kernel
theorem d_M_instruction_396 : decode b_M_instruction 396 = .ok (.getfield 31, 3) := by decide +kernel
theorem d_M_instruction_399 : decode b_M_instruction 399 = .ok (.iload_n 1, 1) := by decide +kernel
theorem d_M_instruction_400 : decode b_M_instruction 400 = .ok (.baload, 1) := by decide +kernel
theorem d_M_instruction_401 : decode b_M_instruction 401 = .ok (.ifCond .eq 10, 3) := by decide +kernel
theorem d_M_instruction_404 : decode b_M_instruction 404 = .ok (.aload_n 0, 1) := by decide +kernel
theorem d_M_instruction_405 : decode b_M_instruction 405 = .ok (.getfield 44, 3) := by decide +kernel
theorem d_M_instruction_408 : decode b_M_instruction 408 = .ok (.iload_n 1, 1) := by decide +kernel
theorem d_M_instruction_409 : decode b_M_instruction 409 = .ok (.iconst (-1), 1) := by decide +kernel
theorem d_M_instruction_410 : decode b_M_instruction 410 = .ok (.iastore, 1) := by decide +kernel
theorem d_M_instruction_411 : decode b_M_instruction 411 = .ok (.return_, 1) := by decide +kernel
theorem d_M_inStep_0 : decode b_M_inStep 0 = .ok (.iconst 0, 1) := by decide +kernel
theorem d_M_inStep_1 : decode b_M_inStep 1 = .ok (.istore_n 1, 1) := by decide +kernel
theorem d_M_inStep_2 : decode b_M_inStep 2 = .ok (.iconst 0, 1) := by decide +kernel
theorem d_M_inStep_3 : decode b_M_inStep 3 = .ok (.istore_n 2, 1) := by decide +kernel
theorem d_M_inStep_4 : decode b_M_inStep 4 = .ok (.iload_n 2, 1) := by decide +kernel
theorem d_M_inStep_5 : decode b_M_inStep 5 = .ok (.iconst 3, 1) := by decide +kernel
theorem d_M_inStep_6 : decode b_M_inStep 6 = .ok (.if_icmp .ge 26, 3) := by decide +kernel
theorem d_M_inStep_9 : decode b_M_inStep 9 = .ok (.iload_n 1, 1) := by decide +kernel
theorem d_M_inStep_10 : decode b_M_inStep 10 = .ok (.aload_n 0, 1) := by decide +kernel
theorem d_M_inStep_11 : decode b_M_inStep 11 = .ok (.getfield 22, 3) := by decide +kernel
theorem d_M_inStep_14 : decode b_M_inStep 14 = .ok (.iload_n 2, 1) := by decide +kernel
theorem d_M_inStep_15 : decode b_M_inStep 15 = .ok (.iaload, 1) := by decide +kernel
theorem d_M_inStep_16 : decode b_M_inStep 16 = .ok (.ifCond .ne 7, 3) := by decide +kernel
theorem d_M_inStep_19 : decode b_M_inStep 19 = .ok (.iconst 1, 1) := by decide +kernel
theorem d_M_inStep_20 : decode b_M_inStep 20 = .ok (.goto 4, 3) := by decide +kernel
theorem d_M_inStep_23 : decode b_M_inStep 23 = .ok (.iconst 0, 1) := by decide +kernel
theorem d_M_inStep_24 : decode b_M_inStep 24 = .ok (.iadd, 1) := by decide +kernel
theorem d_M_inStep_25 : decode b_M_inStep 25 = .ok (.istore_n 1, 1) := by decide +kernel
theorem d_M_inStep_26 : decode b_M_inStep 26 = .ok (.iinc 2 1, 3) := by decide +kernel
theorem d_M_inStep_29 : decode b_M_inStep 29 = .ok (.goto (-25), 3) := by decide +kernel
theorem d_M_inStep_32 : decode b_M_inStep 32 = .ok (.iload_n 1, 1) := by decide +kernel
theorem d_M_inStep_33 : decode b_M_inStep 33 = .ok (.ireturn, 1) := by decide +kernel
theorem d_M_isLike_0 : decode b_M_isLike 0 = .ok (.aload_n 0, 1) := by decide +kernel
theorem d_M_isLike_1 : decode b_M_isLike 1 = .ok (.getfield 44, 3) := by decide +kernel
theorem d_M_isLike_4 : decode b_M_isLike 4 = .ok (.iload_n 1, 1) := by decide +kernel
theorem d_M_isLike_5 : decode b_M_isLike 5 = .ok (.iaload, 1) := by decide +kernel
theorem d_M_isLike_6 : decode b_M_isLike 6 = .ok (.aload_n 0, 1) := by decide +kernel
theorem d_M_isLike_7 : decode b_M_isLike 7 = .ok (.getfield 44, 3) := by decide +kernel
theorem d_M_isLike_10 : decode b_M_isLike 10 = .ok (.iload_n 2, 1) := by decide +kernel
theorem d_M_isLike_11 : decode b_M_isLike 11 = .ok (.iaload, 1) := by decide +kernel
theorem d_M_isLike_12 : decode b_M_isLike 12 = .ok (.if_icmp .ne 22, 3) := by decide +kernel
theorem d_M_isLike_15 : decode b_M_isLike 15 = .ok (.aload_n 0, 1) := by decide +kernel
theorem d_M_isLike_16 : decode b_M_isLike 16 = .ok (.getfield 47, 3) := by decide +kernel
theorem d_M_isLike_19 : decode b_M_isLike 19 = .ok (.iload_n 1, 1) := by decide +kernel
theorem d_M_isLike_20 : decode b_M_isLike 20 = .ok (.baload, 1) := by decide +kernel
theorem d_M_isLike_21 : decode b_M_isLike 21 = .ok (.aload_n 0, 1) := by decide +kernel
theorem d_M_isLike_22 : decode b_M_isLike 22 = .ok (.getfield 47, 3) := by decide +kernel
theorem d_M_isLike_25 : decode b_M_isLike 25 = .ok (.iload_n 2, 1) := by decide +kernel
theorem d_M_isLike_26 : decode b_M_isLike 26 = .ok (.baload, 1) := by decide +kernel
theorem d_M_isLike_27 : decode b_M_isLike 27 = .ok (.if_icmp .ne 7, 3) := by decide +kernel
theorem d_M_isLike_30 : decode b_M_isLike 30 = .ok (.iconst 1, 1) := by decide +kernel
theorem d_M_isLike_31 : decode b_M_isLike 31 = .ok (.goto 4, 3) := by decide +kernel
theorem d_M_isLike_34 : decode b_M_isLike 34 = .ok (.iconst 0, 1) := by decide +kernel
theorem d_M_isLike_35 : decode b_M_isLike 35 = .ok (.ireturn, 1) := by decide +kernel
theorem d_M_vote_0 : decode b_M_vote 0 = .ok (.iconst 0, 1) := by decide +kernel
theorem d_M_vote_1 : decode b_M_vote 1 = .ok (.istore_n 1, 1) := by decide +kernel
theorem d_M_vote_2 : decode b_M_vote 2 = .ok (.iconst (-1), 1) := by decide +kernel
theorem d_M_vote_3 : decode b_M_vote 3 = .ok (.istore_n 2, 1) := by decide +kernel
theorem d_M_vote_4 : decode b_M_vote 4 = .ok (.iconst (-1), 1) := by decide +kernel
theorem d_M_vote_5 : decode b_M_vote 5 = .ok (.istore_n 3, 1) := by decide +kernel
theorem d_M_vote_6 : decode b_M_vote 6 = .ok (.iconst (-1), 1) := by decide +kernel
theorem d_M_vote_7 : decode b_M_vote 7 = .ok (.istore 4, 2) := by decide +kernel
theorem d_M_vote_9 : decode b_M_vote 9 = .ok (.iconst 0, 1) := by decide +kernel
theorem d_M_vote_10 : decode b_M_vote 10 = .ok (.istore 5, 2) := by decide +kernel
theorem d_M_vote_12 : decode b_M_vote 12 = .ok (.iload 5, 2) := by decide +kernel
theorem d_M_vote_14 : decode b_M_vote 14 = .ok (.iconst 3, 1) := by decide +kernel
theorem d_M_vote_15 : decode b_M_vote 15 = .ok (.if_icmp .ge 50, 3) := by decide +kernel
theorem d_M_vote_18 : decode b_M_vote 18 = .ok (.aload_n 0, 1) := by decide +kernel
theorem d_M_vote_19 : decode b_M_vote 19 = .ok (.getfield 22, 3) := by decide +kernel
theorem d_M_vote_22 : decode b_M_vote 22 = .ok (.iload 5, 2) := by decide +kernel
theorem d_M_vote_24 : decode b_M_vote 24 = .ok (.iaload, 1) := by decide +kernel
theorem d_M_vote_25 : decode b_M_vote 25 = .ok (.ifCond .eq 6, 3) := by decide +kernel
theorem d_M_vote_28 : decode b_M_vote 28 = .ok (.goto 31, 3) := by decide +kernel
theorem d_M_vote_31 : decode b_M_vote 31 = .ok (.iinc 1 1, 3) := by decide +kernel
theorem d_M_vote_34 : decode b_M_vote 34 = .ok (.iload_n 1, 1) := by decide +kernel
theorem d_M_vote_35 : decode b_M_vote 35 = .ok (.iconst 1, 1) := by decide +kernel
theorem d_M_vote_36 : decode b_M_vote 36 = .ok (.if_icmp .ne 6, 3) := by decide +kernel
theorem d_M_vote_39 : decode b_M_vote 39 = .ok (.iload 5, 2) := by decide +kernel
theorem d_M_vote_41 : decode b_M_vote 41 = .ok (.istore_n 2, 1) := by decide +kernel
theorem d_M_vote_42 : decode b_M_vote 42 = .ok (.iload_n 1, 1) := by decide +kernel
theorem d_M_vote_43 : decode b_M_vote 43 = .ok (.iconst 2, 1) := by decide +kernel
theorem d_M_vote_44 : decode b_M_vote 44 = .ok (.if_icmp .ne 6, 3) := by decide +kernel
theorem d_M_vote_47 : decode b_M_vote 47 = .ok (.iload 5, 2) := by decide +kernel
theorem d_M_vote_49 : decode b_M_vote 49 = .ok (.istore_n 3, 1) := by decide +kernel
theorem d_M_vote_50 : decode b_M_vote 50 = .ok (.iload_n 1, 1) := by decide +kernel
theorem d_M_vote_51 : decode b_M_vote 51 = .ok (.iconst 3, 1) := by decide +kernel
theorem d_M_vote_52 : decode b_M_vote 52 = .ok (.if_icmp .ne 7, 3) := by decide +kernel
theorem d_M_vote_55 : decode b_M_vote 55 = .ok (.iload 5, 2) := by decide +kernel
theorem d_M_vote_57 : decode b_M_vote 57 = .ok (.istore 4, 2) := by decide +kernel
theorem d_M_vote_59 : decode b_M_vote 59 = .ok (.iinc 5 1, 3) := by decide +kernel
theorem d_M_vote_62 : decode b_M_vote 62 = .ok (.goto (-50), 3) := by decide +kernel
theorem d_M_vote_65 : decode b_M_vote 65 = .ok (.iload_n 1, 1) := by decide +kernel
theorem d_M_vote_66 : decode b_M_vote 66 = .ok (.iconst 1, 1) := by decide +kernel
theorem d_M_vote_67 : decode b_M_vote 67 = .ok (.if_icmp .ne 5, 3) := by decide +kernel
theorem d_M_vote_70 : decode b_M_vote 70 = .ok (.iload_n 2, 1) := by decide +kernel
theorem d_M_vote_71 : decode b_M_vote 71 = .ok (.ireturn, 1) := by decide +kernel
theorem d_M_vote_72 : decode b_M_vote 72 = .ok (.iload_n 1, 1) := by decide +kernel
theorem d_M_vote_73 : decode b_M_vote 73 = .ok (.iconst 2, 1) := by decide +kernel
theorem d_M_vote_74 : decode b_M_vote 74 = .ok (.if_icmp .ne 77, 3) := by decide +kernel
theorem d_M_vote_77 : decode b_M_vote 77 = .ok (.aload_n 0, 1) := by decide +kernel
theorem d_M_vote_78 : decode b_M_vote 78 = .ok (.iload_n 2, 1) := by decide +kernel
theorem d_M_vote_79 : decode b_M_vote 79 = .ok (.iload_n 3, 1) := by decide +kernel
theorem d_M_vote_80 : decode b_M_vote 80 = .ok (.invokevirtual 164, 3) := by decide +kernel
theorem d_M_vote_83 : decode b_M_vote 83 = .ok (.ifCond .eq 5, 3) := by decide +kernel
theorem d_M_vote_86 : decode b_M_vote 86 = .ok (.iload_n 2, 1) := by decide +kernel
theorem d_M_vote_87 : decode b_M_vote 87 = .ok (.ireturn, 1) := by decide +kernel
theorem d_M_vote_88 : decode b_M_vote 88 = .ok (.aload_n 0, 1) := by decide +kernel
theorem d_M_vote_89 : decode b_M_vote 89 = .ok (.dup, 1) := by decide +kernel
theorem d_M_vote_90 : decode b_M_vote 90 = .ok (.getfield 131, 3) := by decide +kernel
theorem d_M_vote_93 : decode b_M_vote 93 = .ok (.iconst 1, 1) := by decide +kernel
theorem d_M_vote_94 : decode b_M_vote 94 = .ok (.iadd, 1) := by decide +kernel
theorem d_M_vote_95 : decode b_M_vote 95 = .ok (.putfield 131, 3) := by decide +kernel
theorem d_M_vote_98 : decode b_M_vote 98 = .ok (.aload_n 0, 1) := by decide +kernel
theorem d_M_vote_99 : decode b_M_vote 99 = .ok (.getfield 47, 3) := by decide +kernel
theorem d_M_vote_102 : decode b_M_vote 102 = .ok (.iload_n 2, 1) := by decide +kernel
theorem d_M_vote_103 : decode b_M_vote 103 = .ok (.baload, 1) := by decide +kernel
theorem d_M_vote_104 : decode b_M_vote 104 = .ok (.aload_n 0, 1) := by decide +kernel
theorem d_M_vote_105 : decode b_M_vote 105 = .ok (.getfield 47, 3) := by decide +kernel
theorem d_M_vote_108 : decode b_M_vote 108 = .ok (.iload_n 3, 1) := by decide +kernel
theorem d_M_vote_109 : decode b_M_vote 109 = .ok (.baload, 1) := by decide +kernel
theorem d_M_vote_110 : decode b_M_vote 110 = .ok (.if_icmp .ne 5, 3) := by decide +kernel
theorem d_M_vote_113 : decode b_M_vote 113 = .ok (.iconst (-1), 1) := by decide +kernel
theorem d_M_vote_114 : decode b_M_vote 114 = .ok (.ireturn, 1) := by decide +kernel
theorem d_M_vote_115 : decode b_M_vote 115 = .ok (.aload_n 0, 1) := by decide +kernel
theorem d_M_vote_116 : decode b_M_vote 116 = .ok (.getfield 47, 3) := by decide +kernel
theorem d_M_vote_119 : decode b_M_vote 119 = .ok (.iload_n 2, 1) := by decide +kernel
theorem d_M_vote_120 : decode b_M_vote 120 = .ok (.baload, 1) := by decide +kernel
theorem d_M_vote_121 : decode b_M_vote 121 = .ok (.ifCond .eq 7, 3) := by decide +kernel
theorem d_M_vote_124 : decode b_M_vote 124 = .ok (.iload_n 2, 1) := by decide +kernel
theorem d_M_vote_125 : decode b_M_vote 125 = .ok (.goto 4, 3) := by decide +kernel
theorem d_M_vote_128 : decode b_M_vote 128 = .ok (.iload_n 3, 1) := by decide +kernel
theorem d_M_vote_129 : decode b_M_vote 129 = .ok (.istore 5, 2) := by decide +kernel
theorem d_M_vote_131 : decode b_M_vote 131 = .ok (.aload_n 0, 1) := by decide +kernel
theorem d_M_vote_132 : decode b_M_vote 132 = .ok (.getfield 59, 3) := by decide +kernel
theorem d_M_vote_135 : decode b_M_vote 135 = .ok (.iload 5, 2) := by decide +kernel
theorem d_M_vote_137 : decode b_M_vote 137 = .ok (.iconst 1, 1) := by decide +kernel
theorem d_M_vote_138 : decode b_M_vote 138 = .ok (.bastore, 1) := by decide +kernel
theorem d_M_vote_139 : decode b_M_vote 139 = .ok (.iload 5, 2) := by decide +kernel
theorem d_M_vote_141 : decode b_M_vote 141 = .ok (.iload_n 2, 1) := by decide +kernel
theorem d_M_vote_142 : decode b_M_vote 142 = .ok (.if_icmp .ne 7, 3) := by decide +kernel
theorem d_M_vote_145 : decode b_M_vote 145 = .ok (.iload_n 3, 1) := by decide +kernel
theorem d_M_vote_146 : decode b_M_vote 146 = .ok (.goto 4, 3) := by decide +kernel
theorem d_M_vote_149 : decode b_M_vote 149 = .ok (.iload_n 2, 1) := by decide +kernel
theorem d_M_vote_150 : decode b_M_vote 150 = .ok (.ireturn, 1) := by decide +kernel
theorem d_M_vote_151 : decode b_M_vote 151 = .ok (.aload_n 0, 1) := by decide +kernel
theorem d_M_vote_152 : decode b_M_vote 152 = .ok (.iload_n 2, 1) := by decide +kernel
theorem d_M_vote_153 : decode b_M_vote 153 = .ok (.iload_n 3, 1) := by decide +kernel
theorem d_M_vote_154 : decode b_M_vote 154 = .ok (.invokevirtual 164, 3) := by decide +kernel
theorem d_M_vote_157 : decode b_M_vote 157 = .ok (.ifCond .eq 15, 3) := by decide +kernel
theorem d_M_vote_160 : decode b_M_vote 160 = .ok (.aload_n 0, 1) := by decide +kernel
theorem d_M_vote_161 : decode b_M_vote 161 = .ok (.iload_n 3, 1) := by decide +kernel
theorem d_M_vote_162 : decode b_M_vote 162 = .ok (.iload 4, 2) := by decide +kernel
theorem d_M_vote_164 : decode b_M_vote 164 = .ok (.invokevirtual 164, 3) := by decide +kernel
theorem d_M_vote_167 : decode b_M_vote 167 = .ok (.ifCond .eq 5, 3) := by decide +kernel
theorem d_M_vote_170 : decode b_M_vote 170 = .ok (.iload_n 2, 1) := by decide +kernel
theorem d_M_vote_171 : decode b_M_vote 171 = .ok (.ireturn, 1) := by decide +kernel
theorem d_M_vote_172 : decode b_M_vote 172 = .ok (.aload_n 0, 1) := by decide +kernel
theorem d_M_vote_173 : decode b_M_vote 173 = .ok (.dup, 1) := by decide +kernel
theorem d_M_vote_174 : decode b_M_vote 174 = .ok (.getfield 131, 3) := by decide +kernel
theorem d_M_vote_177 : decode b_M_vote 177 = .ok (.iconst 1, 1) := by decide +kernel
theorem d_M_vote_178 : decode b_M_vote 178 = .ok (.iadd, 1) := by decide +kernel
theorem d_M_vote_179 : decode b_M_vote 179 = .ok (.putfield 131, 3) := by decide +kernel
theorem d_M_vote_182 : decode b_M_vote 182 = .ok (.aload_n 0, 1) := by decide +kernel
theorem d_M_vote_183 : decode b_M_vote 183 = .ok (.iload_n 2, 1) := by decide +kernel
theorem d_M_vote_184 : decode b_M_vote 184 = .ok (.iload_n 3, 1) := by decide +kernel
theorem d_M_vote_185 : decode b_M_vote 185 = .ok (.invokevirtual 164, 3) := by decide +kernel
theorem d_M_vote_188 : decode b_M_vote 188 = .ok (.ifCond .eq 13, 3) := by decide +kernel
theorem d_M_vote_191 : decode b_M_vote 191 = .ok (.aload_n 0, 1) := by decide +kernel
theorem d_M_vote_192 : decode b_M_vote 192 = .ok (.getfield 59, 3) := by decide +kernel
theorem d_M_vote_195 : decode b_M_vote 195 = .ok (.iload 4, 2) := by decide +kernel
theorem d_M_vote_197 : decode b_M_vote 197 = .ok (.iconst 1, 1) := by decide +kernel
theorem d_M_vote_198 : decode b_M_vote 198 = .ok (.bastore, 1) := by decide +kernel
theorem d_M_vote_199 : decode b_M_vote 199 = .ok (.iload_n 2, 1) := by decide +kernel
theorem d_M_vote_200 : decode b_M_vote 200 = .ok (.ireturn, 1) := by decide +kernel
theorem d_M_vote_201 : decode b_M_vote 201 = .ok (.aload_n 0, 1) := by decide +kernel
theorem d_M_vote_202 : decode b_M_vote 202 = .ok (.iload_n 2, 1) := by decide +kernel
theorem d_M_vote_203 : decode b_M_vote 203 = .ok (.iload 4, 2) := by decide +kernel
theorem d_M_vote_205 : decode b_M_vote 205 = .ok (.invokevirtual 164, 3) := by decide +kernel
theorem d_M_vote_208 : decode b_M_vote 208 = .ok (.ifCond .eq 12, 3) := by decide +kernel
theorem d_M_vote_211 : decode b_M_vote 211 = .ok (.aload_n 0, 1) := by decide +kernel
theorem d_M_vote_212 : decode b_M_vote 212 = .ok (.getfield 59, 3) := by decide +kernel
theorem d_M_vote_215 : decode b_M_vote 215 = .ok (.iload_n 3, 1) := by decide +kernel
theorem d_M_vote_216 : decode b_M_vote 216 = .ok (.iconst 1, 1) := by decide +kernel
theorem d_M_vote_217 : decode b_M_vote 217 = .ok (.bastore, 1) := by decide +kernel
theorem d_M_vote_218 : decode b_M_vote 218 = .ok (.iload_n 2, 1) := by decide +kernel
theorem d_M_vote_219 : decode b_M_vote 219 = .ok (.ireturn, 1) := by decide +kernel
theorem d_M_vote_220 : decode b_M_vote 220 = .ok (.aload_n 0, 1) := by decide +kernel
theorem d_M_vote_221 : decode b_M_vote 221 = .ok (.iload_n 3, 1) := by decide +kernel
theorem d_M_vote_222 : decode b_M_vote 222 = .ok (.iload 4, 2) := by decide +kernel
theorem d_M_vote_224 : decode b_M_vote 224 = .ok (.invokevirtual 164, 3) := by decide +kernel
theorem d_M_vote_227 : decode b_M_vote 227 = .ok (.ifCond .eq 12, 3) := by decide +kernel
theorem d_M_vote_230 : decode b_M_vote 230 = .ok (.aload_n 0, 1) := by decide +kernel
theorem d_M_vote_231 : decode b_M_vote 231 = .ok (.getfield 59, 3) := by decide +kernel
theorem d_M_vote_234 : decode b_M_vote 234 = .ok (.iload_n 2, 1) := by decide +kernel
theorem d_M_vote_235 : decode b_M_vote 235 = .ok (.iconst 1, 1) := by decide +kernel
theorem d_M_vote_236 : decode b_M_vote 236 = .ok (.bastore, 1) := by decide +kernel
theorem d_M_vote_237 : decode b_M_vote 237 = .ok (.iload_n 3, 1) := by decide +kernel
theorem d_M_vote_238 : decode b_M_vote 238 = .ok (.ireturn, 1) := by decide +kernel
theorem d_M_vote_239 : decode b_M_vote 239 = .ok (.iconst (-1), 1) := by decide +kernel
theorem d_M_vote_240 : decode b_M_vote 240 = .ok (.ireturn, 1) := by decide +kernel
theorem d_M_agreed_0 : decode b_M_agreed 0 = .ok (.aload_n 0, 1) := by decide +kernel
theorem d_M_agreed_1 : decode b_M_agreed 1 = .ok (.getfield 44, 3) := by decide +kernel
theorem d_M_agreed_4 : decode b_M_agreed 4 = .ok (.iload_n 1, 1) := by decide +kernel
theorem d_M_agreed_5 : decode b_M_agreed 5 = .ok (.iaload, 1) := by decide +kernel
theorem d_M_agreed_6 : decode b_M_agreed 6 = .ok (.istore_n 2, 1) := by decide +kernel
theorem d_M_agreed_7 : decode b_M_agreed 7 = .ok (.iconst 0, 1) := by decide +kernel
theorem d_M_agreed_8 : decode b_M_agreed 8 = .ok (.istore_n 3, 1) := by decide +kernel
theorem d_M_agreed_9 : decode b_M_agreed 9 = .ok (.iload_n 2, 1) := by decide +kernel
theorem d_M_agreed_10 : decode b_M_agreed 10 = .ok (.bipush (-2), 2) := by decide +kernel
theorem d_M_agreed_12 : decode b_M_agreed 12 = .ok (.if_icmp .ne 34, 3) := by decide +kernel
theorem d_M_agreed_15 : decode b_M_agreed 15 = .ok (.aload_n 0, 1) := by decide +kernel
theorem d_M_agreed_16 : decode b_M_agreed 16 = .ok (.getfield 137, 3) := by decide +kernel
theorem d_M_agreed_19 : decode b_M_agreed 19 = .ok (.aload_n 0, 1) := by decide +kernel
theorem d_M_agreed_20 : decode b_M_agreed 20 = .ok (.getfield 134, 3) := by decide +kernel
theorem d_M_agreed_23 : decode b_M_agreed 23 = .ok (.if_icmp .ge 23, 3) := by decide +kernel
theorem d_M_agreed_26 : decode b_M_agreed 26 = .ok (.aload_n 0, 1) := by decide +kernel
theorem d_M_agreed_27 : decode b_M_agreed 27 = .ok (.getfield 62, 3) := by decide +kernel
theorem d_M_agreed_30 : decode b_M_agreed 30 = .ok (.aload_n 0, 1) := by decide +kernel
theorem d_M_agreed_31 : decode b_M_agreed 31 = .ok (.getfield 137, 3) := by decide +kernel
theorem d_M_agreed_34 : decode b_M_agreed 34 = .ok (.iaload, 1) := by decide +kernel
theorem d_M_agreed_35 : decode b_M_agreed 35 = .ok (.istore_n 3, 1) := by decide +kernel
theorem d_M_agreed_36 : decode b_M_agreed 36 = .ok (.aload_n 0, 1) := by decide +kernel
theorem d_M_agreed_37 : decode b_M_agreed 37 = .ok (.dup, 1) := by decide +kernel
theorem d_M_agreed_38 : decode b_M_agreed 38 = .ok (.getfield 137, 3) := by decide +kernel
theorem d_M_agreed_41 : decode b_M_agreed 41 = .ok (.iconst 1, 1) := by decide +kernel
theorem d_M_agreed_42 : decode b_M_agreed 42 = .ok (.iadd, 1) := by decide +kernel
theorem d_M_agreed_43 : decode b_M_agreed 43 = .ok (.putfield 137, 3) := by decide +kernel
theorem d_M_agreed_46 : decode b_M_agreed 46 = .ok (.iconst 0, 1) := by decide +kernel
theorem d_M_agreed_47 : decode b_M_agreed 47 = .ok (.istore 4, 2) := by decide +kernel
theorem d_M_agreed_49 : decode b_M_agreed 49 = .ok (.iload 4, 2) := by decide +kernel
theorem d_M_agreed_51 : decode b_M_agreed 51 = .ok (.iconst 3, 1) := by decide +kernel
theorem d_M_agreed_52 : decode b_M_agreed 52 = .ok (.if_icmp .ge 49, 3) := by decide +kernel
theorem d_M_agreed_55 : decode b_M_agreed 55 = .ok (.aload_n 0, 1) := by decide +kernel
theorem d_M_agreed_56 : decode b_M_agreed 56 = .ok (.getfield 22, 3) := by decide +kernel
theorem d_M_agreed_59 : decode b_M_agreed 59 = .ok (.iload 4, 2) := by decide +kernel
theorem d_M_agreed_61 : decode b_M_agreed 61 = .ok (.iaload, 1) := by decide +kernel
theorem d_M_agreed_62 : decode b_M_agreed 62 = .ok (.ifCond .ne 33, 3) := by decide +kernel
theorem d_M_agreed_65 : decode b_M_agreed 65 = .ok (.aload_n 0, 1) := by decide +kernel
theorem d_M_agreed_66 : decode b_M_agreed 66 = .ok (.getfield 50, 3) := by decide +kernel
theorem d_M_agreed_69 : decode b_M_agreed 69 = .ok (.iload 4, 2) := by decide +kernel
theorem d_M_agreed_71 : decode b_M_agreed 71 = .ok (.iaload, 1) := by decide +kernel
theorem d_M_agreed_72 : decode b_M_agreed 72 = .ok (.iconst (-1), 1) := by decide +kernel
theorem d_M_agreed_73 : decode b_M_agreed 73 = .ok (.if_icmp .eq 22, 3) := by decide +kernel
theorem d_M_agreed_76 : decode b_M_agreed 76 = .ok (.aload_n 0, 1) := by decide +kernel
theorem d_M_agreed_77 : decode b_M_agreed 77 = .ok (.getfield 13, 3) := by decide +kernel
theorem d_M_agreed_80 : decode b_M_agreed 80 = .ok (.bipush 8, 2) := by decide +kernel
theorem d_M_agreed_82 : decode b_M_agreed 82 = .ok (.iload 4, 2) := by decide +kernel
theorem d_M_agreed_84 : decode b_M_agreed 84 = .ok (.imul, 1) := by decide +kernel
theorem d_M_agreed_85 : decode b_M_agreed 85 = .ok (.aload_n 0, 1) := by decide +kernel
theorem d_M_agreed_86 : decode b_M_agreed 86 = .ok (.getfield 50, 3) := by decide +kernel
theorem d_M_agreed_89 : decode b_M_agreed 89 = .ok (.iload 4, 2) := by decide +kernel
theorem d_M_agreed_91 : decode b_M_agreed 91 = .ok (.iaload, 1) := by decide +kernel
theorem d_M_agreed_92 : decode b_M_agreed 92 = .ok (.iadd, 1) := by decide +kernel
theorem d_M_agreed_93 : decode b_M_agreed 93 = .ok (.iload_n 3, 1) := by decide +kernel
theorem d_M_agreed_94 : decode b_M_agreed 94 = .ok (.iastore, 1) := by decide +kernel
theorem d_M_agreed_95 : decode b_M_agreed 95 = .ok (.iinc 4 1, 3) := by decide +kernel
theorem d_M_agreed_98 : decode b_M_agreed 98 = .ok (.goto (-49), 3) := by decide +kernel
theorem d_M_agreed_101 : decode b_M_agreed 101 = .ok (.iload_n 2, 1) := by decide +kernel
theorem d_M_agreed_102 : decode b_M_agreed 102 = .ok (.ifCond .ge 4, 3) := by decide +kernel
theorem d_M_agreed_105 : decode b_M_agreed 105 = .ok (.return_, 1) := by decide +kernel
theorem d_M_agreed_106 : decode b_M_agreed 106 = .ok (.aload_n 0, 1) := by decide +kernel
theorem d_M_agreed_107 : decode b_M_agreed 107 = .ok (.getfield 140, 3) := by decide +kernel
theorem d_M_agreed_110 : decode b_M_agreed 110 = .ok (.sipush 300, 3) := by decide +kernel
theorem d_M_agreed_113 : decode b_M_agreed 113 = .ok (.if_icmp .ge 13, 3) := by decide +kernel
theorem d_M_agreed_116 : decode b_M_agreed 116 = .ok (.aload_n 0, 1) := by decide +kernel
theorem d_M_agreed_117 : decode b_M_agreed 117 = .ok (.getfield 65, 3) := by decide +kernel
theorem d_M_agreed_120 : decode b_M_agreed 120 = .ok (.aload_n 0, 1) := by decide +kernel
theorem d_M_agreed_121 : decode b_M_agreed 121 = .ok (.getfield 140, 3) := by decide +kernel
theorem d_M_agreed_124 : decode b_M_agreed 124 = .ok (.iload_n 2, 1) := by decide +kernel
theorem d_M_agreed_125 : decode b_M_agreed 125 = .ok (.iastore, 1) := by decide +kernel
theorem d_M_agreed_126 : decode b_M_agreed 126 = .ok (.aload_n 0, 1) := by decide +kernel
theorem d_M_agreed_127 : decode b_M_agreed 127 = .ok (.dup, 1) := by decide +kernel
theorem d_M_agreed_128 : decode b_M_agreed 128 = .ok (.getfield 140, 3) := by decide +kernel
theorem d_M_agreed_131 : decode b_M_agreed 131 = .ok (.iconst 1, 1) := by decide +kernel
theorem d_M_agreed_132 : decode b_M_agreed 132 = .ok (.iadd, 1) := by decide +kernel
theorem d_M_agreed_133 : decode b_M_agreed 133 = .ok (.putfield 140, 3) := by decide +kernel
theorem d_M_agreed_136 : decode b_M_agreed 136 = .ok (.return_, 1) := by decide +kernel
theorem d_M_lowest_0 : decode b_M_lowest 0 = .ok (.iconst 0, 1) := by decide +kernel
theorem d_M_lowest_1 : decode b_M_lowest 1 = .ok (.istore_n 2, 1) := by decide +kernel
theorem d_M_lowest_2 : decode b_M_lowest 2 = .ok (.iload_n 2, 1) := by decide +kernel
theorem d_M_lowest_3 : decode b_M_lowest 3 = .ok (.iconst 3, 1) := by decide +kernel
theorem d_M_lowest_4 : decode b_M_lowest 4 = .ok (.if_icmp .ge 33, 3) := by decide +kernel
theorem d_M_lowest_7 : decode b_M_lowest 7 = .ok (.aload_n 0, 1) := by decide +kernel
theorem d_M_lowest_8 : decode b_M_lowest 8 = .ok (.getfield 22, 3) := by decide +kernel
theorem d_M_lowest_11 : decode b_M_lowest 11 = .ok (.iload_n 2, 1) := by decide +kernel
theorem d_M_lowest_12 : decode b_M_lowest 12 = .ok (.iaload, 1) := by decide +kernel
theorem d_M_lowest_13 : decode b_M_lowest 13 = .ok (.ifCond .ne 18, 3) := by decide +kernel
theorem d_M_lowest_16 : decode b_M_lowest 16 = .ok (.iload_n 1, 1) := by decide +kernel
theorem d_M_lowest_17 : decode b_M_lowest 17 = .ok (.ifCond .eq 12, 3) := by decide +kernel
theorem d_M_lowest_20 : decode b_M_lowest 20 = .ok (.aload_n 0, 1) := by decide +kernel
theorem d_M_lowest_21 : decode b_M_lowest 21 = .ok (.getfield 59, 3) := by decide +kernel
theorem d_M_lowest_24 : decode b_M_lowest 24 = .ok (.iload_n 2, 1) := by decide +kernel
theorem d_M_lowest_25 : decode b_M_lowest 25 = .ok (.baload, 1) := by decide +kernel
theorem d_M_lowest_26 : decode b_M_lowest 26 = .ok (.ifCond .ne 5, 3) := by decide +kernel
theorem d_M_lowest_29 : decode b_M_lowest 29 = .ok (.iload_n 2, 1) := by decide +kernel
theorem d_M_lowest_30 : decode b_M_lowest 30 = .ok (.ireturn, 1) := by decide +kernel
theorem d_M_lowest_31 : decode b_M_lowest 31 = .ok (.iinc 2 1, 3) := by decide +kernel
theorem d_M_lowest_34 : decode b_M_lowest 34 = .ok (.goto (-32), 3) := by decide +kernel
theorem d_M_lowest_37 : decode b_M_lowest 37 = .ok (.iconst (-1), 1) := by decide +kernel
theorem d_M_lowest_38 : decode b_M_lowest 38 = .ok (.ireturn, 1) := by decide +kernel
theorem d_M_copyStore_0 : decode b_M_copyStore 0 = .ok (.aload_n 0, 1) := by decide +kernel
theorem d_M_copyStore_1 : decode b_M_copyStore 1 = .ok (.iconst 1, 1) := by decide +kernel
theorem d_M_copyStore_2 : decode b_M_copyStore 2 = .ok (.invokevirtual 168, 3) := by decide +kernel
theorem d_M_copyStore_5 : decode b_M_copyStore 5 = .ok (.istore_n 1, 1) := by decide +kernel
theorem d_M_copyStore_6 : decode b_M_copyStore 6 = .ok (.iload_n 1, 1) := by decide +kernel
theorem d_M_copyStore_7 : decode b_M_copyStore 7 = .ok (.iconst (-1), 1) := by decide +kernel
theorem d_M_copyStore_8 : decode b_M_copyStore 8 = .ok (.if_icmp .eq 13, 3) := by decide +kernel
theorem d_M_copyStore_11 : decode b_M_copyStore 11 = .ok (.aload_n 0, 1) := by decide +kernel
theorem d_M_copyStore_12 : decode b_M_copyStore 12 = .ok (.getfield 53, 3) := by decide +kernel
theorem d_M_copyStore_15 : decode b_M_copyStore 15 = .ok (.iload_n 1, 1) := by decide +kernel
theorem d_M_copyStore_16 : decode b_M_copyStore 16 = .ok (.iaload, 1) := by decide +kernel
theorem d_M_copyStore_17 : decode b_M_copyStore 17 = .ok (.iconst (-1), 1) := by decide +kernel
theorem d_M_copyStore_18 : decode b_M_copyStore 18 = .ok (.if_icmp .ne 4, 3) := by decide +kernel
theorem d_M_copyStore_21 : decode b_M_copyStore 21 = .ok (.return_, 1) := by decide +kernel
theorem d_M_copyStore_22 : decode b_M_copyStore 22 = .ok (.iconst 0, 1) := by decide +kernel
theorem d_M_copyStore_23 : decode b_M_copyStore 23 = .ok (.istore_n 2, 1) := by decide +kernel
theorem d_M_copyStore_24 : decode b_M_copyStore 24 = .ok (.iload_n 2, 1) := by decide +kernel
theorem d_M_copyStore_25 : decode b_M_copyStore 25 = .ok (.iconst 3, 1) := by decide +kernel
theorem d_M_copyStore_26 : decode b_M_copyStore 26 = .ok (.if_icmp .ge 59, 3) := by decide +kernel
theorem d_M_copyStore_29 : decode b_M_copyStore 29 = .ok (.aload_n 0, 1) := by decide +kernel
theorem d_M_copyStore_30 : decode b_M_copyStore 30 = .ok (.getfield 22, 3) := by decide +kernel
theorem d_M_copyStore_33 : decode b_M_copyStore 33 = .ok (.iload_n 2, 1) := by decide +kernel
theorem d_M_copyStore_34 : decode b_M_copyStore 34 = .ok (.iaload, 1) := by decide +kernel
theorem d_M_copyStore_35 : decode b_M_copyStore 35 = .ok (.iconst 1, 1) := by decide +kernel
theorem d_M_copyStore_36 : decode b_M_copyStore 36 = .ok (.if_icmp .ne 43, 3) := by decide +kernel
theorem d_M_copyStore_39 : decode b_M_copyStore 39 = .ok (.aload_n 0, 1) := by decide +kernel
theorem d_M_copyStore_40 : decode b_M_copyStore 40 = .ok (.getfield 53, 3) := by decide +kernel
theorem d_M_copyStore_43 : decode b_M_copyStore 43 = .ok (.iload_n 1, 1) := by decide +kernel
theorem d_M_copyStore_44 : decode b_M_copyStore 44 = .ok (.iaload, 1) := by decide +kernel
theorem d_M_copyStore_45 : decode b_M_copyStore 45 = .ok (.aload_n 0, 1) := by decide +kernel
theorem d_M_copyStore_46 : decode b_M_copyStore 46 = .ok (.getfield 25, 3) := by decide +kernel
theorem d_M_copyStore_49 : decode b_M_copyStore 49 = .ok (.iload_n 2, 1) := by decide +kernel
theorem d_M_copyStore_50 : decode b_M_copyStore 50 = .ok (.iaload, 1) := by decide +kernel
theorem d_M_copyStore_51 : decode b_M_copyStore 51 = .ok (.if_icmp .ge 28, 3) := by decide +kernel
theorem d_M_copyStore_54 : decode b_M_copyStore 54 = .ok (.aload_n 0, 1) := by decide +kernel
theorem d_M_copyStore_55 : decode b_M_copyStore 55 = .ok (.getfield 16, 3) := by decide +kernel
theorem d_M_copyStore_58 : decode b_M_copyStore 58 = .ok (.bipush 32, 2) := by decide +kernel
theorem d_M_copyStore_60 : decode b_M_copyStore 60 = .ok (.iload_n 2, 1) := by decide +kernel
theorem d_M_copyStore_61 : decode b_M_copyStore 61 = .ok (.imul, 1) := by decide +kernel
theorem d_M_copyStore_62 : decode b_M_copyStore 62 = .ok (.aload_n 0, 1) := by decide +kernel
theorem d_M_copyStore_63 : decode b_M_copyStore 63 = .ok (.getfield 53, 3) := by decide +kernel
theorem d_M_copyStore_66 : decode b_M_copyStore 66 = .ok (.iload_n 1, 1) := by decide +kernel
theorem d_M_copyStore_67 : decode b_M_copyStore 67 = .ok (.iaload, 1) := by decide +kernel
theorem d_M_copyStore_68 : decode b_M_copyStore 68 = .ok (.iadd, 1) := by decide +kernel
theorem d_M_copyStore_69 : decode b_M_copyStore 69 = .ok (.aload_n 0, 1) := by decide +kernel
theorem d_M_copyStore_70 : decode b_M_copyStore 70 = .ok (.getfield 56, 3) := by decide +kernel
theorem d_M_copyStore_73 : decode b_M_copyStore 73 = .ok (.iload_n 1, 1) := by decide +kernel
theorem d_M_copyStore_74 : decode b_M_copyStore 74 = .ok (.iaload, 1) := by decide +kernel
theorem d_M_copyStore_75 : decode b_M_copyStore 75 = .ok (.invokestatic 115, 3) := by decide +kernel
theorem d_M_copyStore_78 : decode b_M_copyStore 78 = .ok (.iastore, 1) := by decide +kernel
theorem d_M_copyStore_79 : decode b_M_copyStore 79 = .ok (.iinc 2 1, 3) := by decide +kernel
theorem d_M_copyStore_82 : decode b_M_copyStore 82 = .ok (.goto (-58), 3) := by decide +kernel
theorem d_M_copyStore_85 : decode b_M_copyStore 85 = .ok (.return_, 1) := by decide +kernel
theorem d_M_scrub_0 : decode b_M_scrub 0 = .ok (.iconst 1, 1) := by decide +kernel
theorem d_M_scrub_1 : decode b_M_scrub 1 = .ok (.istore_n 1, 1) := by decide +kernel
theorem d_M_scrub_2 : decode b_M_scrub 2 = .ok (.iconst 0, 1) := by decide +kernel
theorem d_M_scrub_3 : decode b_M_scrub 3 = .ok (.istore_n 2, 1) := by decide +kernel
theorem d_M_scrub_4 : decode b_M_scrub 4 = .ok (.iload_n 2, 1) := by decide +kernel
theorem d_M_scrub_5 : decode b_M_scrub 5 = .ok (.iconst 3, 1) := by decide +kernel
theorem d_M_scrub_6 : decode b_M_scrub 6 = .ok (.if_icmp .ge 77, 3) := by decide +kernel
theorem d_M_scrub_9 : decode b_M_scrub 9 = .ok (.aload_n 0, 1) := by decide +kernel
theorem d_M_scrub_10 : decode b_M_scrub 10 = .ok (.getfield 47, 3) := by decide +kernel
theorem d_M_scrub_13 : decode b_M_scrub 13 = .ok (.iload_n 2, 1) := by decide +kernel
theorem d_M_scrub_14 : decode b_M_scrub 14 = .ok (.iconst 0, 1) := by decide +kernel
theorem d_M_scrub_15 : decode b_M_scrub 15 = .ok (.bastore, 1) := by decide +kernel
theorem d_M_scrub_16 : decode b_M_scrub 16 = .ok (.aload_n 0, 1) := by decide +kernel
theorem d_M_scrub_17 : decode b_M_scrub 17 = .ok (.getfield 22, 3) := by decide +kernel
theorem d_M_scrub_20 : decode b_M_scrub 20 = .ok (.iload_n 2, 1) := by decide +kernel
theorem d_M_scrub_21 : decode b_M_scrub 21 = .ok (.iaload, 1) := by decide +kernel
theorem d_M_scrub_22 : decode b_M_scrub 22 = .ok (.ifCond .ne 55, 3) := by decide +kernel
theorem d_M_scrub_25 : decode b_M_scrub 25 = .ok (.aload_n 0, 1) := by decide +kernel
theorem d_M_scrub_26 : decode b_M_scrub 26 = .ok (.getfield 59, 3) := by decide +kernel
theorem d_M_scrub_29 : decode b_M_scrub 29 = .ok (.iload_n 2, 1) := by decide +kernel
theorem d_M_scrub_30 : decode b_M_scrub 30 = .ok (.baload, 1) := by decide +kernel
theorem d_M_scrub_31 : decode b_M_scrub 31 = .ok (.ifCond .eq 6, 3) := by decide +kernel
theorem d_M_scrub_34 : decode b_M_scrub 34 = .ok (.goto 43, 3) := by decide +kernel
theorem d_M_scrub_37 : decode b_M_scrub 37 = .ok (.aload_n 0, 1) := by decide +kernel
theorem d_M_scrub_38 : decode b_M_scrub 38 = .ok (.iload_n 2, 1) := by decide +kernel
theorem d_M_scrub_39 : decode b_M_scrub 39 = .ok (.aload_n 0, 1) := by decide +kernel
theorem d_M_scrub_40 : decode b_M_scrub 40 = .ok (.getfield 128, 3) := by decide +kernel
theorem d_M_scrub_43 : decode b_M_scrub 43 = .ok (.bipush 32, 2) := by decide +kernel
theorem d_M_scrub_45 : decode b_M_scrub 45 = .ok (.irem, 1) := by decide +kernel
theorem d_M_scrub_46 : decode b_M_scrub 46 = .ok (.invokevirtual 161, 3) := by decide +kernel
theorem d_M_scrub_49 : decode b_M_scrub 49 = .ok (.istore_n 3, 1) := by decide +kernel
theorem d_M_scrub_50 : decode b_M_scrub 50 = .ok (.aload_n 0, 1) := by decide +kernel
theorem d_M_scrub_51 : decode b_M_scrub 51 = .ok (.getfield 47, 3) := by decide +kernel
theorem d_M_scrub_54 : decode b_M_scrub 54 = .ok (.iload_n 2, 1) := by decide +kernel
theorem d_M_scrub_55 : decode b_M_scrub 55 = .ok (.aload_n 0, 1) := by decide +kernel
theorem d_M_scrub_56 : decode b_M_scrub 56 = .ok (.getfield 109, 3) := by decide +kernel
theorem d_M_scrub_59 : decode b_M_scrub 59 = .ok (.bastore, 1) := by decide +kernel
theorem d_M_scrub_60 : decode b_M_scrub 60 = .ok (.iload_n 1, 1) := by decide +kernel
theorem d_M_scrub_61 : decode b_M_scrub 61 = .ok (.ifCond .eq 14, 3) := by decide +kernel
theorem d_M_scrub_64 : decode b_M_scrub 64 = .ok (.aload_n 0, 1) := by decide +kernel
theorem d_M_scrub_65 : decode b_M_scrub 65 = .ok (.getfield 109, 3) := by decide +kernel
theorem d_M_scrub_68 : decode b_M_scrub 68 = .ok (.ifCond .eq 7, 3) := by decide +kernel
theorem d_M_scrub_71 : decode b_M_scrub 71 = .ok (.iconst 1, 1) := by decide +kernel
theorem d_M_scrub_72 : decode b_M_scrub 72 = .ok (.goto 4, 3) := by decide +kernel
theorem d_M_scrub_75 : decode b_M_scrub 75 = .ok (.iconst 0, 1) := by decide +kernel
theorem d_M_scrub_76 : decode b_M_scrub 76 = .ok (.istore_n 1, 1) := by decide +kernel
theorem d_M_scrub_77 : decode b_M_scrub 77 = .ok (.iinc 2 1, 3) := by decide +kernel
theorem d_M_scrub_80 : decode b_M_scrub 80 = .ok (.goto (-76), 3) := by decide +kernel
theorem d_M_scrub_83 : decode b_M_scrub 83 = .ok (.iload_n 1, 1) := by decide +kernel
theorem d_M_scrub_84 : decode b_M_scrub 84 = .ok (.ifCond .eq 5, 3) := by decide +kernel
theorem d_M_scrub_87 : decode b_M_scrub 87 = .ok (.iconst 0, 1) := by decide +kernel
theorem d_M_scrub_88 : decode b_M_scrub 88 = .ok (.ireturn, 1) := by decide +kernel
theorem d_M_scrub_89 : decode b_M_scrub 89 = .ok (.iconst 0, 1) := by decide +kernel
theorem d_M_scrub_90 : decode b_M_scrub 90 = .ok (.istore_n 2, 1) := by decide +kernel
theorem d_M_scrub_91 : decode b_M_scrub 91 = .ok (.iload_n 2, 1) := by decide +kernel
theorem d_M_scrub_92 : decode b_M_scrub 92 = .ok (.iconst 3, 1) := by decide +kernel
theorem d_M_scrub_93 : decode b_M_scrub 93 = .ok (.if_icmp .ge 38, 3) := by decide +kernel
theorem d_M_scrub_96 : decode b_M_scrub 96 = .ok (.aload_n 0, 1) := by decide +kernel
theorem d_M_scrub_97 : decode b_M_scrub 97 = .ok (.getfield 59, 3) := by decide +kernel
theorem d_M_scrub_100 : decode b_M_scrub 100 = .ok (.iload_n 2, 1) := by decide +kernel
theorem d_M_scrub_101 : decode b_M_scrub 101 = .ok (.aload_n 0, 1) := by decide +kernel
theorem d_M_scrub_102 : decode b_M_scrub 102 = .ok (.getfield 59, 3) := by decide +kernel
theorem d_M_scrub_105 : decode b_M_scrub 105 = .ok (.iload_n 2, 1) := by decide +kernel
theorem d_M_scrub_106 : decode b_M_scrub 106 = .ok (.baload, 1) := by decide +kernel
theorem d_M_scrub_107 : decode b_M_scrub 107 = .ok (.ifCond .ne 12, 3) := by decide +kernel
theorem d_M_scrub_110 : decode b_M_scrub 110 = .ok (.aload_n 0, 1) := by decide +kernel
theorem d_M_scrub_111 : decode b_M_scrub 111 = .ok (.getfield 47, 3) := by decide +kernel
theorem d_M_scrub_114 : decode b_M_scrub 114 = .ok (.iload_n 2, 1) := by decide +kernel
theorem d_M_scrub_115 : decode b_M_scrub 115 = .ok (.baload, 1) := by decide +kernel
theorem d_M_scrub_116 : decode b_M_scrub 116 = .ok (.ifCond .eq 7, 3) := by decide +kernel
theorem d_M_scrub_119 : decode b_M_scrub 119 = .ok (.iconst 1, 1) := by decide +kernel
theorem d_M_scrub_120 : decode b_M_scrub 120 = .ok (.goto 4, 3) := by decide +kernel
theorem d_M_scrub_123 : decode b_M_scrub 123 = .ok (.iconst 0, 1) := by decide +kernel
theorem d_M_scrub_124 : decode b_M_scrub 124 = .ok (.bastore, 1) := by decide +kernel
theorem d_M_scrub_125 : decode b_M_scrub 125 = .ok (.iinc 2 1, 3) := by decide +kernel
theorem d_M_scrub_128 : decode b_M_scrub 128 = .ok (.goto (-37), 3) := by decide +kernel
theorem d_M_scrub_131 : decode b_M_scrub 131 = .ok (.iconst 1, 1) := by decide +kernel
theorem d_M_scrub_132 : decode b_M_scrub 132 = .ok (.ireturn, 1) := by decide +kernel
theorem d_M_digest_0 : decode b_M_digest 0 = .ok (.aload_n 0, 1) := by decide +kernel
theorem d_M_digest_1 : decode b_M_digest 1 = .ok (.getfield 19, 3) := by decide +kernel
theorem d_M_digest_4 : decode b_M_digest 4 = .ok (.iload_n 1, 1) := by decide +kernel
theorem d_M_digest_5 : decode b_M_digest 5 = .ok (.iaload, 1) := by decide +kernel
theorem d_M_digest_6 : decode b_M_digest 6 = .ok (.istore_n 2, 1) := by decide +kernel
theorem d_M_digest_7 : decode b_M_digest 7 = .ok (.iconst 0, 1) := by decide +kernel
theorem d_M_digest_8 : decode b_M_digest 8 = .ok (.istore_n 3, 1) := by decide +kernel
theorem d_M_digest_9 : decode b_M_digest 9 = .ok (.iload_n 3, 1) := by decide +kernel
theorem d_M_digest_10 : decode b_M_digest 10 = .ok (.bipush 8, 2) := by decide +kernel
theorem d_M_digest_12 : decode b_M_digest 12 = .ok (.if_icmp .ge 40, 3) := by decide +kernel
theorem d_M_digest_15 : decode b_M_digest 15 = .ok (.aload_n 0, 1) := by decide +kernel
theorem d_M_digest_16 : decode b_M_digest 16 = .ok (.getfield 13, 3) := by decide +kernel
theorem d_M_digest_19 : decode b_M_digest 19 = .ok (.bipush 8, 2) := by decide +kernel
theorem d_M_digest_21 : decode b_M_digest 21 = .ok (.iload_n 1, 1) := by decide +kernel
theorem d_M_digest_22 : decode b_M_digest 22 = .ok (.imul, 1) := by decide +kernel
theorem d_M_digest_23 : decode b_M_digest 23 = .ok (.iload_n 3, 1) := by decide +kernel
theorem d_M_digest_24 : decode b_M_digest 24 = .ok (.iadd, 1) := by decide +kernel
theorem d_M_digest_25 : decode b_M_digest 25 = .ok (.iaload, 1) := by decide +kernel
theorem d_M_digest_26 : decode b_M_digest 26 = .ok (.istore 4, 2) := by decide +kernel
theorem d_M_digest_28 : decode b_M_digest 28 = .ok (.iload_n 2, 1) := by decide +kernel
theorem d_M_digest_29 : decode b_M_digest 29 = .ok (.iload 4, 2) := by decide +kernel
theorem d_M_digest_31 : decode b_M_digest 31 = .ok (.iload_n 3, 1) := by decide +kernel
theorem d_M_digest_32 : decode b_M_digest 32 = .ok (.ishl, 1) := by decide +kernel
theorem d_M_digest_33 : decode b_M_digest 33 = .ok (.iload 4, 2) := by decide +kernel
theorem d_M_digest_35 : decode b_M_digest 35 = .ok (.bipush 16, 2) := by decide +kernel
theorem d_M_digest_37 : decode b_M_digest 37 = .ok (.iload_n 3, 1) := by decide +kernel
theorem d_M_digest_38 : decode b_M_digest 38 = .ok (.isub, 1) := by decide +kernel
theorem d_M_digest_39 : decode b_M_digest 39 = .ok (.iushr, 1) := by decide +kernel
theorem d_M_digest_40 : decode b_M_digest 40 = .ok (.ior, 1) := by decide +kernel
theorem d_M_digest_41 : decode b_M_digest 41 = .ok (.ldc 156, 2) := by decide +kernel
theorem d_M_digest_43 : decode b_M_digest 43 = .ok (.iand, 1) := by decide +kernel
theorem d_M_digest_44 : decode b_M_digest 44 = .ok (.ixor, 1) := by decide +kernel
theorem d_M_digest_45 : decode b_M_digest 45 = .ok (.istore_n 2, 1) := by decide +kernel
theorem d_M_digest_46 : decode b_M_digest 46 = .ok (.iinc 3 1, 3) := by decide +kernel
theorem d_M_digest_49 : decode b_M_digest 49 = .ok (.goto (-40), 3) := by decide +kernel
theorem d_M_digest_52 : decode b_M_digest 52 = .ok (.iload_n 2, 1) := by decide +kernel
theorem d_M_digest_53 : decode b_M_digest 53 = .ok (.ireturn, 1) := by decide +kernel
theorem d_M_compareDigests_0 : decode b_M_compareDigests 0 = .ok (.iconst 0, 1) := by decide +kernel
theorem d_M_compareDigests_1 : decode b_M_compareDigests 1 = .ok (.istore_n 1, 1) := by decide +kernel
theorem d_M_compareDigests_2 : decode b_M_compareDigests 2 = .ok (.iconst 0, 1) := by decide +kernel
theorem d_M_compareDigests_3 : decode b_M_compareDigests 3 = .ok (.istore_n 2, 1) := by decide +kernel
theorem d_M_compareDigests_4 : decode b_M_compareDigests 4 = .ok (.iload_n 2, 1) := by decide +kernel
theorem d_M_compareDigests_5 : decode b_M_compareDigests 5 = .ok (.iconst 3, 1) := by decide +kernel
theorem d_M_compareDigests_6 : decode b_M_compareDigests 6 = .ok (.if_icmp .ge 35, 3) := by decide +kernel
theorem d_M_compareDigests_9 : decode b_M_compareDigests 9 = .ok (.iload_n 1, 1) := by decide +kernel
theorem d_M_compareDigests_10 : decode b_M_compareDigests 10 = .ok (.aload_n 0, 1) := by decide +kernel
theorem d_M_compareDigests_11 : decode b_M_compareDigests 11 = .ok (.getfield 22, 3) := by decide +kernel
theorem d_M_compareDigests_14 : decode b_M_compareDigests 14 = .ok (.iload_n 2, 1) := by decide +kernel
theorem d_M_compareDigests_15 : decode b_M_compareDigests 15 = .ok (.iaload, 1) := by decide +kernel
theorem d_M_compareDigests_16 : decode b_M_compareDigests 16 = .ok (.ifCond .ne 16, 3) := by decide +kernel
theorem d_M_compareDigests_19 : decode b_M_compareDigests 19 = .ok (.aload_n 0, 1) := by decide +kernel
theorem d_M_compareDigests_20 : decode b_M_compareDigests 20 = .ok (.getfield 59, 3) := by decide +kernel
theorem d_M_compareDigests_23 : decode b_M_compareDigests 23 = .ok (.iload_n 2, 1) := by decide +kernel
theorem d_M_compareDigests_24 : decode b_M_compareDigests 24 = .ok (.baload, 1) := by decide +kernel
theorem d_M_compareDigests_25 : decode b_M_compareDigests 25 = .ok (.ifCond .ne 7, 3) := by decide +kernel
theorem d_M_compareDigests_28 : decode b_M_compareDigests 28 = .ok (.iconst 1, 1) := by decide +kernel
theorem d_M_compareDigests_29 : decode b_M_compareDigests 29 = .ok (.goto 4, 3) := by decide +kernel
theorem d_M_compareDigests_32 : decode b_M_compareDigests 32 = .ok (.iconst 0, 1) := by decide +kernel
theorem d_M_compareDigests_33 : decode b_M_compareDigests 33 = .ok (.iadd, 1) := by decide +kernel
theorem d_M_compareDigests_34 : decode b_M_compareDigests 34 = .ok (.istore_n 1, 1) := by decide +kernel
theorem d_M_compareDigests_35 : decode b_M_compareDigests 35 = .ok (.iinc 2 1, 3) := by decide +kernel
theorem d_M_compareDigests_38 : decode b_M_compareDigests 38 = .ok (.goto (-34), 3) := by decide +kernel
theorem d_M_compareDigests_41 : decode b_M_compareDigests 41 = .ok (.iload_n 1, 1) := by decide +kernel
theorem d_M_compareDigests_42 : decode b_M_compareDigests 42 = .ok (.iconst 2, 1) := by decide +kernel
theorem d_M_compareDigests_43 : decode b_M_compareDigests 43 = .ok (.if_icmp .ge 5, 3) := by decide +kernel
theorem d_M_compareDigests_46 : decode b_M_compareDigests 46 = .ok (.iconst 1, 1) := by decide +kernel
theorem d_M_compareDigests_47 : decode b_M_compareDigests 47 = .ok (.ireturn, 1) := by decide +kernel
theorem d_M_compareDigests_48 : decode b_M_compareDigests 48 = .ok (.iconst (-1), 1) := by decide +kernel
theorem d_M_compareDigests_49 : decode b_M_compareDigests 49 = .ok (.istore_n 2, 1) := by decide +kernel
theorem d_M_compareDigests_50 : decode b_M_compareDigests 50 = .ok (.iconst 0, 1) := by decide +kernel
theorem d_M_compareDigests_51 : decode b_M_compareDigests 51 = .ok (.istore_n 3, 1) := by decide +kernel
theorem d_M_compareDigests_52 : decode b_M_compareDigests 52 = .ok (.iconst 0, 1) := by decide +kernel
theorem d_M_compareDigests_53 : decode b_M_compareDigests 53 = .ok (.istore 4, 2) := by decide +kernel
theorem d_M_compareDigests_55 : decode b_M_compareDigests 55 = .ok (.iload 4, 2) := by decide +kernel
theorem d_M_compareDigests_57 : decode b_M_compareDigests 57 = .ok (.iconst 3, 1) := by decide +kernel
theorem d_M_compareDigests_58 : decode b_M_compareDigests 58 = .ok (.if_icmp .ge 116, 3) := by decide +kernel
theorem d_M_compareDigests_61 : decode b_M_compareDigests 61 = .ok (.aload_n 0, 1) := by decide +kernel
theorem d_M_compareDigests_62 : decode b_M_compareDigests 62 = .ok (.getfield 22, 3) := by decide +kernel
theorem d_M_compareDigests_65 : decode b_M_compareDigests 65 = .ok (.iload 4, 2) := by decide +kernel
theorem d_M_compareDigests_67 : decode b_M_compareDigests 67 = .ok (.iaload, 1) := by decide +kernel
theorem d_M_compareDigests_68 : decode b_M_compareDigests 68 = .ok (.ifCond .ne 100, 3) := by decide +kernel
theorem d_M_compareDigests_71 : decode b_M_compareDigests 71 = .ok (.aload_n 0, 1) := by decide +kernel
theorem d_M_compareDigests_72 : decode b_M_compareDigests 72 = .ok (.getfield 59, 3) := by decide +kernel
theorem d_M_compareDigests_75 : decode b_M_compareDigests 75 = .ok (.iload 4, 2) := by decide +kernel
theorem d_M_compareDigests_77 : decode b_M_compareDigests 77 = .ok (.baload, 1) := by decide +kernel
theorem d_M_compareDigests_78 : decode b_M_compareDigests 78 = .ok (.ifCond .eq 6, 3) := by decide +kernel
theorem d_M_compareDigests_81 : decode b_M_compareDigests 81 = .ok (.goto 87, 3) := by decide +kernel
theorem d_M_compareDigests_84 : decode b_M_compareDigests 84 = .ok (.iconst 0, 1) := by decide +kernel
theorem d_M_compareDigests_85 : decode b_M_compareDigests 85 = .ok (.istore 5, 2) := by decide +kernel
theorem d_M_compareDigests_87 : decode b_M_compareDigests 87 = .ok (.iconst 0, 1) := by decide +kernel
theorem d_M_compareDigests_88 : decode b_M_compareDigests 88 = .ok (.istore 6, 2) := by decide +kernel
theorem d_M_compareDigests_90 : decode b_M_compareDigests 90 = .ok (.iload 6, 2) := by decide +kernel
theorem d_M_compareDigests_92 : decode b_M_compareDigests 92 = .ok (.iconst 3, 1) := by decide +kernel
theorem d_M_compareDigests_93 : decode b_M_compareDigests 93 = .ok (.if_icmp .ge 61, 3) := by decide +kernel
theorem d_M_compareDigests_96 : decode b_M_compareDigests 96 = .ok (.iload 5, 2) := by decide +kernel
theorem d_M_compareDigests_98 : decode b_M_compareDigests 98 = .ok (.iload 6, 2) := by decide +kernel
theorem d_M_compareDigests_100 : decode b_M_compareDigests 100 = .ok (.iload 4, 2) := by decide +kernel
theorem d_M_compareDigests_102 : decode b_M_compareDigests 102 = .ok (.if_icmp .eq 42, 3) := by decide +kernel
theorem d_M_compareDigests_105 : decode b_M_compareDigests 105 = .ok (.aload_n 0, 1) := by decide +kernel
theorem d_M_compareDigests_106 : decode b_M_compareDigests 106 = .ok (.getfield 22, 3) := by decide +kernel
theorem d_M_compareDigests_109 : decode b_M_compareDigests 109 = .ok (.iload 6, 2) := by decide +kernel
theorem d_M_compareDigests_111 : decode b_M_compareDigests 111 = .ok (.iaload, 1) := by decide +kernel
theorem d_M_compareDigests_112 : decode b_M_compareDigests 112 = .ok (.ifCond .ne 32, 3) := by decide +kernel
theorem d_M_compareDigests_115 : decode b_M_compareDigests 115 = .ok (.aload_n 0, 1) := by decide +kernel
theorem d_M_compareDigests_116 : decode b_M_compareDigests 116 = .ok (.getfield 59, 3) := by decide +kernel
theorem d_M_compareDigests_119 : decode b_M_compareDigests 119 = .ok (.iload 6, 2) := by decide +kernel
theorem d_M_compareDigests_121 : decode b_M_compareDigests 121 = .ok (.baload, 1) := by decide +kernel
theorem d_M_compareDigests_122 : decode b_M_compareDigests 122 = .ok (.ifCond .ne 22, 3) := by decide +kernel
theorem d_M_compareDigests_125 : decode b_M_compareDigests 125 = .ok (.aload_n 0, 1) := by decide +kernel
theorem d_M_compareDigests_126 : decode b_M_compareDigests 126 = .ok (.iload 6, 2) := by decide +kernel
theorem d_M_compareDigests_128 : decode b_M_compareDigests 128 = .ok (.invokevirtual 172, 3) := by decide +kernel
theorem d_M_compareDigests_131 : decode b_M_compareDigests 131 = .ok (.aload_n 0, 1) := by decide +kernel
theorem d_M_compareDigests_132 : decode b_M_compareDigests 132 = .ok (.iload 4, 2) := by decide +kernel
theorem d_M_compareDigests_134 : decode b_M_compareDigests 134 = .ok (.invokevirtual 172, 3) := by decide +kernel
theorem d_M_compareDigests_137 : decode b_M_compareDigests 137 = .ok (.if_icmp .ne 7, 3) := by decide +kernel
theorem d_M_compareDigests_140 : decode b_M_compareDigests 140 = .ok (.iconst 1, 1) := by decide +kernel
theorem d_M_compareDigests_141 : decode b_M_compareDigests 141 = .ok (.goto 4, 3) := by decide +kernel
theorem d_M_compareDigests_144 : decode b_M_compareDigests 144 = .ok (.iconst 0, 1) := by decide +kernel
theorem d_M_compareDigests_145 : decode b_M_compareDigests 145 = .ok (.iadd, 1) := by decide +kernel
theorem d_M_compareDigests_146 : decode b_M_compareDigests 146 = .ok (.istore 5, 2) := by decide +kernel
theorem d_M_compareDigests_148 : decode b_M_compareDigests 148 = .ok (.iinc 6 1, 3) := by decide +kernel
theorem d_M_compareDigests_151 : decode b_M_compareDigests 151 = .ok (.goto (-61), 3) := by decide +kernel
theorem d_M_compareDigests_154 : decode b_M_compareDigests 154 = .ok (.iload 5, 2) := by decide +kernel
theorem d_M_compareDigests_156 : decode b_M_compareDigests 156 = .ok (.ifCond .ne 9, 3) := by decide +kernel
theorem d_M_compareDigests_159 : decode b_M_compareDigests 159 = .ok (.iload 4, 2) := by decide +kernel
theorem d_M_compareDigests_161 : decode b_M_compareDigests 161 = .ok (.istore_n 2, 1) := by decide +kernel
theorem d_M_compareDigests_162 : decode b_M_compareDigests 162 = .ok (.goto 6, 3) := by decide +kernel
theorem d_M_compareDigests_165 : decode b_M_compareDigests 165 = .ok (.iinc 3 1, 3) := by decide +kernel
theorem d_M_compareDigests_168 : decode b_M_compareDigests 168 = .ok (.iinc 4 1, 3) := by decide +kernel
theorem d_M_compareDigests_171 : decode b_M_compareDigests 171 = .ok (.goto (-116), 3) := by decide +kernel
theorem d_M_compareDigests_174 : decode b_M_compareDigests 174 = .ok (.iload_n 3, 1) := by decide +kernel
theorem d_M_compareDigests_175 : decode b_M_compareDigests 175 = .ok (.iload_n 1, 1) := by decide +kernel
theorem d_M_compareDigests_176 : decode b_M_compareDigests 176 = .ok (.if_icmp .ne 5, 3) := by decide +kernel
theorem d_M_compareDigests_179 : decode b_M_compareDigests 179 = .ok (.iconst 1, 1) := by decide +kernel
theorem d_M_compareDigests_180 : decode b_M_compareDigests 180 = .ok (.ireturn, 1) := by decide +kernel
theorem d_M_compareDigests_181 : decode b_M_compareDigests 181 = .ok (.iload_n 1, 1) := by decide +kernel
theorem d_M_compareDigests_182 : decode b_M_compareDigests 182 = .ok (.iconst 2, 1) := by decide +kernel
theorem d_M_compareDigests_183 : decode b_M_compareDigests 183 = .ok (.if_icmp .eq 7, 3) := by decide +kernel
theorem d_M_compareDigests_186 : decode b_M_compareDigests 186 = .ok (.iload_n 3, 1) := by decide +kernel
theorem d_M_compareDigests_187 : decode b_M_compareDigests 187 = .ok (.ifCond .ne 5, 3) := by decide +kernel
theorem d_M_compareDigests_190 : decode b_M_compareDigests 190 = .ok (.iconst 0, 1) := by decide +kernel
theorem d_M_compareDigests_191 : decode b_M_compareDigests 191 = .ok (.ireturn, 1) := by decide +kernel
theorem d_M_compareDigests_192 : decode b_M_compareDigests 192 = .ok (.aload_n 0, 1) := by decide +kernel
theorem d_M_compareDigests_193 : decode b_M_compareDigests 193 = .ok (.getfield 59, 3) := by decide +kernel
theorem d_M_compareDigests_196 : decode b_M_compareDigests 196 = .ok (.iload_n 2, 1) := by decide +kernel
theorem d_M_compareDigests_197 : decode b_M_compareDigests 197 = .ok (.iconst 1, 1) := by decide +kernel
theorem d_M_compareDigests_198 : decode b_M_compareDigests 198 = .ok (.bastore, 1) := by decide +kernel
theorem d_M_compareDigests_199 : decode b_M_compareDigests 199 = .ok (.iconst 1, 1) := by decide +kernel
theorem d_M_compareDigests_200 : decode b_M_compareDigests 200 = .ok (.ireturn, 1) := by decide +kernel
theorem d_M_blameAll_0 : decode b_M_blameAll 0 = .ok (.iconst 0, 1) := by decide +kernel
theorem d_M_blameAll_1 : decode b_M_blameAll 1 = .ok (.istore_n 1, 1) := by decide +kernel
theorem d_M_blameAll_2 : decode b_M_blameAll 2 = .ok (.iload_n 1, 1) := by decide +kernel
theorem d_M_blameAll_3 : decode b_M_blameAll 3 = .ok (.iconst 3, 1) := by decide +kernel
theorem d_M_blameAll_4 : decode b_M_blameAll 4 = .ok (.if_icmp .ge 71, 3) := by decide +kernel
theorem d_M_blameAll_7 : decode b_M_blameAll 7 = .ok (.aload_n 0, 1) := by decide +kernel
theorem d_M_blameAll_8 : decode b_M_blameAll 8 = .ok (.getfield 59, 3) := by decide +kernel
theorem d_M_blameAll_11 : decode b_M_blameAll 11 = .ok (.iload_n 1, 1) := by decide +kernel
theorem d_M_blameAll_12 : decode b_M_blameAll 12 = .ok (.baload, 1) := by decide +kernel
theorem d_M_blameAll_13 : decode b_M_blameAll 13 = .ok (.ifCond .ne 6, 3) := by decide +kernel
theorem d_M_blameAll_16 : decode b_M_blameAll 16 = .ok (.goto 53, 3) := by decide +kernel
theorem d_M_blameAll_19 : decode b_M_blameAll 19 = .ok (.aload_n 0, 1) := by decide +kernel
theorem d_M_blameAll_20 : decode b_M_blameAll 20 = .ok (.getfield 41, 3) := by decide +kernel
theorem d_M_blameAll_23 : decode b_M_blameAll 23 = .ok (.iload_n 1, 1) := by decide +kernel
theorem d_M_blameAll_24 : decode b_M_blameAll 24 = .ok (.dup2, 1) := by decide +kernel
theorem d_M_blameAll_25 : decode b_M_blameAll 25 = .ok (.iaload, 1) := by decide +kernel
theorem d_M_blameAll_26 : decode b_M_blameAll 26 = .ok (.iconst 1, 1) := by decide +kernel
theorem d_M_blameAll_27 : decode b_M_blameAll 27 = .ok (.iadd, 1) := by decide +kernel
theorem d_M_blameAll_28 : decode b_M_blameAll 28 = .ok (.iastore, 1) := by decide +kernel
theorem d_M_blameAll_29 : decode b_M_blameAll 29 = .ok (.aload_n 0, 1) := by decide +kernel
theorem d_M_blameAll_30 : decode b_M_blameAll 30 = .ok (.getfield 28, 3) := by decide +kernel
theorem d_M_blameAll_33 : decode b_M_blameAll 33 = .ok (.iload_n 1, 1) := by decide +kernel
theorem d_M_blameAll_34 : decode b_M_blameAll 34 = .ok (.dup2, 1) := by decide +kernel
theorem d_M_blameAll_35 : decode b_M_blameAll 35 = .ok (.iaload, 1) := by decide +kernel
theorem d_M_blameAll_36 : decode b_M_blameAll 36 = .ok (.bipush 20, 2) := by decide +kernel
theorem d_M_blameAll_38 : decode b_M_blameAll 38 = .ok (.iadd, 1) := by decide +kernel
theorem d_M_blameAll_39 : decode b_M_blameAll 39 = .ok (.iastore, 1) := by decide +kernel
theorem d_M_blameAll_40 : decode b_M_blameAll 40 = .ok (.aload_n 0, 1) := by decide +kernel
theorem d_M_blameAll_41 : decode b_M_blameAll 41 = .ok (.getfield 22, 3) := by decide +kernel
theorem d_M_blameAll_44 : decode b_M_blameAll 44 = .ok (.iload_n 1, 1) := by decide +kernel
theorem d_M_blameAll_45 : decode b_M_blameAll 45 = .ok (.aload_n 0, 1) := by decide +kernel
theorem d_M_blameAll_46 : decode b_M_blameAll 46 = .ok (.getfield 28, 3) := by decide +kernel
theorem d_M_blameAll_49 : decode b_M_blameAll 49 = .ok (.iload_n 1, 1) := by decide +kernel
theorem d_M_blameAll_50 : decode b_M_blameAll 50 = .ok (.iaload, 1) := by decide +kernel
theorem d_M_blameAll_51 : decode b_M_blameAll 51 = .ok (.bipush 50, 2) := by decide +kernel
theorem d_M_blameAll_53 : decode b_M_blameAll 53 = .ok (.if_icmp .lt 7, 3) := by decide +kernel
theorem d_M_blameAll_56 : decode b_M_blameAll 56 = .ok (.iconst 2, 1) := by decide +kernel
theorem d_M_blameAll_57 : decode b_M_blameAll 57 = .ok (.goto 4, 3) := by decide +kernel
theorem d_M_blameAll_60 : decode b_M_blameAll 60 = .ok (.iconst 1, 1) := by decide +kernel
theorem d_M_blameAll_61 : decode b_M_blameAll 61 = .ok (.iastore, 1) := by decide +kernel
theorem d_M_blameAll_62 : decode b_M_blameAll 62 = .ok (.aload_n 0, 1) := by decide +kernel
theorem d_M_blameAll_63 : decode b_M_blameAll 63 = .ok (.getfield 25, 3) := by decide +kernel
theorem d_M_blameAll_66 : decode b_M_blameAll 66 = .ok (.iload_n 1, 1) := by decide +kernel
theorem d_M_blameAll_67 : decode b_M_blameAll 67 = .ok (.iconst 0, 1) := by decide +kernel
theorem d_M_blameAll_68 : decode b_M_blameAll 68 = .ok (.iastore, 1) := by decide +kernel
theorem d_M_blameAll_69 : decode b_M_blameAll 69 = .ok (.iinc 1 1, 3) := by decide +kernel
theorem d_M_blameAll_72 : decode b_M_blameAll 72 = .ok (.goto (-70), 3) := by decide +kernel
theorem d_M_blameAll_75 : decode b_M_blameAll 75 = .ok (.aload_n 0, 1) := by decide +kernel
theorem d_M_blameAll_76 : decode b_M_blameAll 76 = .ok (.invokevirtual 175, 3) := by decide +kernel
theorem d_M_blameAll_79 : decode b_M_blameAll 79 = .ok (.istore_n 1, 1) := by decide +kernel
theorem d_M_blameAll_80 : decode b_M_blameAll 80 = .ok (.iload_n 1, 1) := by decide +kernel
theorem d_M_blameAll_81 : decode b_M_blameAll 81 = .ok (.iconst 1, 1) := by decide +kernel
theorem d_M_blameAll_82 : decode b_M_blameAll 82 = .ok (.if_icmp .gt 15, 3) := by decide +kernel
theorem d_M_blameAll_85 : decode b_M_blameAll 85 = .ok (.iload_n 1, 1) := by decide +kernel
theorem d_M_blameAll_86 : decode b_M_blameAll 86 = .ok (.iconst 1, 1) := by decide +kernel
theorem d_M_blameAll_87 : decode b_M_blameAll 87 = .ok (.if_icmp .ne 14, 3) := by decide +kernel
theorem d_M_blameAll_90 : decode b_M_blameAll 90 = .ok (.aload_n 0, 1) := by decide +kernel
theorem d_M_blameAll_91 : decode b_M_blameAll 91 = .ok (.getfield 125, 3) := by decide +kernel
theorem d_M_blameAll_94 : decode b_M_blameAll 94 = .ok (.ifCond .eq 7, 3) := by decide +kernel
theorem d_M_blameAll_97 : decode b_M_blameAll 97 = .ok (.iconst 1, 1) := by decide +kernel
theorem d_M_blameAll_98 : decode b_M_blameAll 98 = .ok (.goto 4, 3) := by decide +kernel
theorem d_M_blameAll_101 : decode b_M_blameAll 101 = .ok (.iconst 0, 1) := by decide +kernel
theorem d_M_blameAll_102 : decode b_M_blameAll 102 = .ok (.ireturn, 1) := by decide +kernel
theorem d_M_copyAll_0 : decode b_M_copyAll 0 = .ok (.aload_n 0, 1) := by decide +kernel
theorem d_M_copyAll_1 : decode b_M_copyAll 1 = .ok (.iconst 0, 1) := by decide +kernel
theorem d_M_copyAll_2 : decode b_M_copyAll 2 = .ok (.invokevirtual 168, 3) := by decide +kernel
theorem d_M_copyAll_5 : decode b_M_copyAll 5 = .ok (.istore_n 1, 1) := by decide +kernel
theorem d_M_copyAll_6 : decode b_M_copyAll 6 = .ok (.iconst 0, 1) := by decide +kernel
theorem d_M_copyAll_7 : decode b_M_copyAll 7 = .ok (.istore_n 2, 1) := by decide +kernel
theorem d_M_copyAll_8 : decode b_M_copyAll 8 = .ok (.iload_n 2, 1) := by decide +kernel
theorem d_M_copyAll_9 : decode b_M_copyAll 9 = .ok (.iconst 3, 1) := by decide +kernel
theorem d_M_copyAll_10 : decode b_M_copyAll 10 = .ok (.if_icmp .ge 142, 3) := by decide +kernel
theorem d_M_copyAll_13 : decode b_M_copyAll 13 = .ok (.aload_n 0, 1) := by decide +kernel
theorem d_M_copyAll_14 : decode b_M_copyAll 14 = .ok (.getfield 22, 3) := by decide +kernel
theorem d_M_copyAll_17 : decode b_M_copyAll 17 = .ok (.iload_n 2, 1) := by decide +kernel
theorem d_M_copyAll_18 : decode b_M_copyAll 18 = .ok (.iaload, 1) := by decide +kernel
theorem d_M_copyAll_19 : decode b_M_copyAll 19 = .ok (.iconst 1, 1) := by decide +kernel
theorem d_M_copyAll_20 : decode b_M_copyAll 20 = .ok (.if_icmp .ne 126, 3) := by decide +kernel
theorem d_M_copyAll_23 : decode b_M_copyAll 23 = .ok (.aload_n 0, 1) := by decide +kernel
theorem d_M_copyAll_24 : decode b_M_copyAll 24 = .ok (.getfield 59, 3) := by decide +kernel
theorem d_M_copyAll_27 : decode b_M_copyAll 27 = .ok (.iload_n 2, 1) := by decide +kernel
theorem d_M_copyAll_28 : decode b_M_copyAll 28 = .ok (.baload, 1) := by decide +kernel
theorem d_M_copyAll_29 : decode b_M_copyAll 29 = .ok (.ifCond .eq 6, 3) := by decide +kernel
theorem d_M_copyAll_32 : decode b_M_copyAll 32 = .ok (.goto 114, 3) := by decide +kernel
theorem d_M_copyAll_35 : decode b_M_copyAll 35 = .ok (.aload_n 0, 1) := by decide +kernel
theorem d_M_copyAll_36 : decode b_M_copyAll 36 = .ok (.getfield 16, 3) := by decide +kernel
theorem d_M_copyAll_39 : decode b_M_copyAll 39 = .ok (.bipush 32, 2) := by decide +kernel
theorem d_M_copyAll_41 : decode b_M_copyAll 41 = .ok (.iload_n 2, 1) := by decide +kernel
theorem d_M_copyAll_42 : decode b_M_copyAll 42 = .ok (.imul, 1) := by decide +kernel
theorem d_M_copyAll_43 : decode b_M_copyAll 43 = .ok (.aload_n 0, 1) := by decide +kernel
theorem d_M_copyAll_44 : decode b_M_copyAll 44 = .ok (.getfield 25, 3) := by decide +kernel
theorem d_M_copyAll_47 : decode b_M_copyAll 47 = .ok (.iload_n 2, 1) := by decide +kernel
theorem d_M_copyAll_48 : decode b_M_copyAll 48 = .ok (.iaload, 1) := by decide +kernel
theorem d_M_copyAll_49 : decode b_M_copyAll 49 = .ok (.iadd, 1) := by decide +kernel
theorem d_M_copyAll_50 : decode b_M_copyAll 50 = .ok (.aload_n 0, 1) := by decide +kernel
theorem d_M_copyAll_51 : decode b_M_copyAll 51 = .ok (.getfield 16, 3) := by decide +kernel
theorem d_M_copyAll_54 : decode b_M_copyAll 54 = .ok (.bipush 32, 2) := by decide +kernel
theorem d_M_copyAll_56 : decode b_M_copyAll 56 = .ok (.iload_n 1, 1) := by decide +kernel
theorem d_M_copyAll_57 : decode b_M_copyAll 57 = .ok (.imul, 1) := by decide +kernel
theorem d_M_copyAll_58 : decode b_M_copyAll 58 = .ok (.aload_n 0, 1) := by decide +kernel
theorem d_M_copyAll_59 : decode b_M_copyAll 59 = .ok (.getfield 25, 3) := by decide +kernel
theorem d_M_copyAll_62 : decode b_M_copyAll 62 = .ok (.iload_n 2, 1) := by decide +kernel
theorem d_M_copyAll_63 : decode b_M_copyAll 63 = .ok (.iaload, 1) := by decide +kernel
theorem d_M_copyAll_64 : decode b_M_copyAll 64 = .ok (.iadd, 1) := by decide +kernel
theorem d_M_copyAll_65 : decode b_M_copyAll 65 = .ok (.iaload, 1) := by decide +kernel
theorem d_M_copyAll_66 : decode b_M_copyAll 66 = .ok (.iastore, 1) := by decide +kernel
theorem d_M_copyAll_67 : decode b_M_copyAll 67 = .ok (.aload_n 0, 1) := by decide +kernel
theorem d_M_copyAll_68 : decode b_M_copyAll 68 = .ok (.getfield 25, 3) := by decide +kernel
theorem d_M_copyAll_71 : decode b_M_copyAll 71 = .ok (.iload_n 2, 1) := by decide +kernel
theorem d_M_copyAll_72 : decode b_M_copyAll 72 = .ok (.dup2, 1) := by decide +kernel
theorem d_M_copyAll_73 : decode b_M_copyAll 73 = .ok (.iaload, 1) := by decide +kernel
theorem d_M_copyAll_74 : decode b_M_copyAll 74 = .ok (.iconst 1, 1) := by decide +kernel
theorem d_M_copyAll_75 : decode b_M_copyAll 75 = .ok (.iadd, 1) := by decide +kernel
theorem d_M_copyAll_76 : decode b_M_copyAll 76 = .ok (.iastore, 1) := by decide +kernel
theorem d_M_copyAll_77 : decode b_M_copyAll 77 = .ok (.aload_n 0, 1) := by decide +kernel
theorem d_M_copyAll_78 : decode b_M_copyAll 78 = .ok (.getfield 25, 3) := by decide +kernel
theorem d_M_copyAll_81 : decode b_M_copyAll 81 = .ok (.iload_n 2, 1) := by decide +kernel
theorem d_M_copyAll_82 : decode b_M_copyAll 82 = .ok (.iaload, 1) := by decide +kernel
theorem d_M_copyAll_83 : decode b_M_copyAll 83 = .ok (.bipush 32, 2) := by decide +kernel
theorem d_M_copyAll_85 : decode b_M_copyAll 85 = .ok (.if_icmp .ge 6, 3) := by decide +kernel
theorem d_M_copyAll_88 : decode b_M_copyAll 88 = .ok (.goto 58, 3) := by decide +kernel
theorem d_M_copyAll_91 : decode b_M_copyAll 91 = .ok (.iconst 0, 1) := by decide +kernel
theorem d_M_copyAll_92 : decode b_M_copyAll 92 = .ok (.istore_n 3, 1) := by decide +kernel
theorem d_M_copyAll_93 : decode b_M_copyAll 93 = .ok (.iload_n 3, 1) := by decide +kernel
theorem d_M_copyAll_94 : decode b_M_copyAll 94 = .ok (.bipush 8, 2) := by decide +kernel
theorem d_M_copyAll_96 : decode b_M_copyAll 96 = .ok (.if_icmp .ge 31, 3) := by decide +kernel
theorem d_M_copyAll_99 : decode b_M_copyAll 99 = .ok (.aload_n 0, 1) := by decide +kernel
theorem d_M_copyAll_100 : decode b_M_copyAll 100 = .ok (.getfield 13, 3) := by decide +kernel
theorem d_M_copyAll_103 : decode b_M_copyAll 103 = .ok (.bipush 8, 2) := by decide +kernel
theorem d_M_copyAll_105 : decode b_M_copyAll 105 = .ok (.iload_n 2, 1) := by decide +kernel
theorem d_M_copyAll_106 : decode b_M_copyAll 106 = .ok (.imul, 1) := by decide +kernel
theorem d_M_copyAll_107 : decode b_M_copyAll 107 = .ok (.iload_n 3, 1) := by decide +kernel
theorem d_M_copyAll_108 : decode b_M_copyAll 108 = .ok (.iadd, 1) := by decide +kernel
theorem d_M_copyAll_109 : decode b_M_copyAll 109 = .ok (.aload_n 0, 1) := by decide +kernel
theorem d_M_copyAll_110 : decode b_M_copyAll 110 = .ok (.getfield 13, 3) := by decide +kernel
theorem d_M_copyAll_113 : decode b_M_copyAll 113 = .ok (.bipush 8, 2) := by decide +kernel
theorem d_M_copyAll_115 : decode b_M_copyAll 115 = .ok (.iload_n 1, 1) := by decide +kernel
theorem d_M_copyAll_116 : decode b_M_copyAll 116 = .ok (.imul, 1) := by decide +kernel
theorem d_M_copyAll_117 : decode b_M_copyAll 117 = .ok (.iload_n 3, 1) := by decide +kernel
theorem d_M_copyAll_118 : decode b_M_copyAll 118 = .ok (.iadd, 1) := by decide +kernel
theorem d_M_copyAll_119 : decode b_M_copyAll 119 = .ok (.iaload, 1) := by decide +kernel
theorem d_M_copyAll_120 : decode b_M_copyAll 120 = .ok (.iastore, 1) := by decide +kernel
theorem d_M_copyAll_121 : decode b_M_copyAll 121 = .ok (.iinc 3 1, 3) := by decide +kernel
theorem d_M_copyAll_124 : decode b_M_copyAll 124 = .ok (.goto (-31), 3) := by decide +kernel
theorem d_M_copyAll_127 : decode b_M_copyAll 127 = .ok (.aload_n 0, 1) := by decide +kernel
theorem d_M_copyAll_128 : decode b_M_copyAll 128 = .ok (.getfield 19, 3) := by decide +kernel
theorem d_M_copyAll_131 : decode b_M_copyAll 131 = .ok (.iload_n 2, 1) := by decide +kernel
theorem d_M_copyAll_132 : decode b_M_copyAll 132 = .ok (.aload_n 0, 1) := by decide +kernel
theorem d_M_copyAll_133 : decode b_M_copyAll 133 = .ok (.getfield 19, 3) := by decide +kernel
theorem d_M_copyAll_136 : decode b_M_copyAll 136 = .ok (.iload_n 1, 1) := by decide +kernel
theorem d_M_copyAll_137 : decode b_M_copyAll 137 = .ok (.iaload, 1) := by decide +kernel
theorem d_M_copyAll_138 : decode b_M_copyAll 138 = .ok (.iastore, 1) := by decide +kernel
theorem d_M_copyAll_139 : decode b_M_copyAll 139 = .ok (.aload_n 0, 1) := by decide +kernel
theorem d_M_copyAll_140 : decode b_M_copyAll 140 = .ok (.getfield 22, 3) := by decide +kernel
theorem d_M_copyAll_143 : decode b_M_copyAll 143 = .ok (.iload_n 2, 1) := by decide +kernel
theorem d_M_copyAll_144 : decode b_M_copyAll 144 = .ok (.iconst 0, 1) := by decide +kernel
theorem d_M_copyAll_145 : decode b_M_copyAll 145 = .ok (.iastore, 1) := by decide +kernel
theorem d_M_copyAll_146 : decode b_M_copyAll 146 = .ok (.iinc 2 1, 3) := by decide +kernel
theorem d_M_copyAll_149 : decode b_M_copyAll 149 = .ok (.goto (-141), 3) := by decide +kernel
theorem d_M_copyAll_152 : decode b_M_copyAll 152 = .ok (.return_, 1) := by decide +kernel
theorem d_M_stepOnce_0 : decode b_M_stepOnce 0 = .ok (.aload_n 0, 1) := by decide +kernel
theorem d_M_stepOnce_1 : decode b_M_stepOnce 1 = .ok (.dup, 1) := by decide +kernel
theorem d_M_stepOnce_2 : decode b_M_stepOnce 2 = .ok (.getfield 128, 3) := by decide +kernel
theorem d_M_stepOnce_5 : decode b_M_stepOnce 5 = .ok (.iconst 1, 1) := by decide +kernel
theorem d_M_stepOnce_6 : decode b_M_stepOnce 6 = .ok (.iadd, 1) := by decide +kernel
theorem d_M_stepOnce_7 : decode b_M_stepOnce 7 = .ok (.putfield 128, 3) := by decide +kernel
theorem d_M_stepOnce_10 : decode b_M_stepOnce 10 = .ok (.aload_n 0, 1) := by decide +kernel
theorem d_M_stepOnce_11 : decode b_M_stepOnce 11 = .ok (.invokevirtual 179, 3) := by decide +kernel
theorem d_M_stepOnce_14 : decode b_M_stepOnce 14 = .ok (.iconst 0, 1) := by decide +kernel
theorem d_M_stepOnce_15 : decode b_M_stepOnce 15 = .ok (.istore_n 1, 1) := by decide +kernel
theorem d_M_stepOnce_16 : decode b_M_stepOnce 16 = .ok (.iload_n 1, 1) := by decide +kernel
theorem d_M_stepOnce_17 : decode b_M_stepOnce 17 = .ok (.iconst 3, 1) := by decide +kernel
theorem d_M_stepOnce_18 : decode b_M_stepOnce 18 = .ok (.if_icmp .ge 44, 3) := by decide +kernel
theorem d_M_stepOnce_21 : decode b_M_stepOnce 21 = .ok (.aload_n 0, 1) := by decide +kernel
theorem d_M_stepOnce_22 : decode b_M_stepOnce 22 = .ok (.getfield 59, 3) := by decide +kernel
theorem d_M_stepOnce_25 : decode b_M_stepOnce 25 = .ok (.iload_n 1, 1) := by decide +kernel
theorem d_M_stepOnce_26 : decode b_M_stepOnce 26 = .ok (.iconst 0, 1) := by decide +kernel
theorem d_M_stepOnce_27 : decode b_M_stepOnce 27 = .ok (.bastore, 1) := by decide +kernel
theorem d_M_stepOnce_28 : decode b_M_stepOnce 28 = .ok (.aload_n 0, 1) := by decide +kernel
theorem d_M_stepOnce_29 : decode b_M_stepOnce 29 = .ok (.getfield 53, 3) := by decide +kernel
theorem d_M_stepOnce_32 : decode b_M_stepOnce 32 = .ok (.iload_n 1, 1) := by decide +kernel
theorem d_M_stepOnce_33 : decode b_M_stepOnce 33 = .ok (.iconst (-1), 1) := by decide +kernel
theorem d_M_stepOnce_34 : decode b_M_stepOnce 34 = .ok (.iastore, 1) := by decide +kernel
theorem d_M_stepOnce_35 : decode b_M_stepOnce 35 = .ok (.aload_n 0, 1) := by decide +kernel
theorem d_M_stepOnce_36 : decode b_M_stepOnce 36 = .ok (.getfield 50, 3) := by decide +kernel
theorem d_M_stepOnce_39 : decode b_M_stepOnce 39 = .ok (.iload_n 1, 1) := by decide +kernel
theorem d_M_stepOnce_40 : decode b_M_stepOnce 40 = .ok (.iconst (-1), 1) := by decide +kernel
theorem d_M_stepOnce_41 : decode b_M_stepOnce 41 = .ok (.iastore, 1) := by decide +kernel
theorem d_M_stepOnce_42 : decode b_M_stepOnce 42 = .ok (.aload_n 0, 1) := by decide +kernel
theorem d_M_stepOnce_43 : decode b_M_stepOnce 43 = .ok (.getfield 22, 3) := by decide +kernel
theorem d_M_stepOnce_46 : decode b_M_stepOnce 46 = .ok (.iload_n 1, 1) := by decide +kernel
theorem d_M_stepOnce_47 : decode b_M_stepOnce 47 = .ok (.iaload, 1) := by decide +kernel
theorem d_M_stepOnce_48 : decode b_M_stepOnce 48 = .ok (.ifCond .ne 8, 3) := by decide +kernel
theorem d_M_stepOnce_51 : decode b_M_stepOnce 51 = .ok (.aload_n 0, 1) := by decide +kernel
theorem d_M_stepOnce_52 : decode b_M_stepOnce 52 = .ok (.iload_n 1, 1) := by decide +kernel
theorem d_M_stepOnce_53 : decode b_M_stepOnce 53 = .ok (.invokevirtual 182, 3) := by decide +kernel
theorem d_M_stepOnce_56 : decode b_M_stepOnce 56 = .ok (.iinc 1 1, 3) := by decide +kernel
theorem d_M_stepOnce_59 : decode b_M_stepOnce 59 = .ok (.goto (-43), 3) := by decide +kernel
theorem d_M_stepOnce_62 : decode b_M_stepOnce 62 = .ok (.aload_n 0, 1) := by decide +kernel
theorem d_M_stepOnce_63 : decode b_M_stepOnce 63 = .ok (.invokevirtual 185, 3) := by decide +kernel
theorem d_M_stepOnce_66 : decode b_M_stepOnce 66 = .ok (.istore_n 1, 1) := by decide +kernel
theorem d_M_stepOnce_67 : decode b_M_stepOnce 67 = .ok (.iload_n 1, 1) := by decide +kernel
theorem d_M_stepOnce_68 : decode b_M_stepOnce 68 = .ok (.iconst (-1), 1) := by decide +kernel
theorem d_M_stepOnce_69 : decode b_M_stepOnce 69 = .ok (.if_icmp .ne 5, 3) := by decide +kernel
theorem d_M_stepOnce_72 : decode b_M_stepOnce 72 = .ok (.iconst 0, 1) := by decide +kernel
theorem d_M_stepOnce_73 : decode b_M_stepOnce 73 = .ok (.ireturn, 1) := by decide +kernel
theorem d_M_stepOnce_74 : decode b_M_stepOnce 74 = .ok (.aload_n 0, 1) := by decide +kernel
theorem d_M_stepOnce_75 : decode b_M_stepOnce 75 = .ok (.iload_n 1, 1) := by decide +kernel
theorem d_M_stepOnce_76 : decode b_M_stepOnce 76 = .ok (.invokevirtual 188, 3) := by decide +kernel
theorem d_M_stepOnce_79 : decode b_M_stepOnce 79 = .ok (.aload_n 0, 1) := by decide +kernel
theorem d_M_stepOnce_80 : decode b_M_stepOnce 80 = .ok (.invokevirtual 191, 3) := by decide +kernel
theorem d_M_stepOnce_83 : decode b_M_stepOnce 83 = .ok (.aload_n 0, 1) := by decide +kernel
theorem d_M_stepOnce_84 : decode b_M_stepOnce 84 = .ok (.invokevirtual 194, 3) := by decide +kernel
theorem d_M_stepOnce_87 : decode b_M_stepOnce 87 = .ok (.ifCond .ne 5, 3) := by decide +kernel
theorem d_M_stepOnce_90 : decode b_M_stepOnce 90 = .ok (.iconst 0, 1) := by decide +kernel
theorem d_M_stepOnce_91 : decode b_M_stepOnce 91 = .ok (.ireturn, 1) := by decide +kernel
theorem d_M_stepOnce_92 : decode b_M_stepOnce 92 = .ok (.aload_n 0, 1) := by decide +kernel
theorem d_M_stepOnce_93 : decode b_M_stepOnce 93 = .ok (.getfield 128, 3) := by decide +kernel
theorem d_M_stepOnce_96 : decode b_M_stepOnce 96 = .ok (.bipush 16, 2) := by decide +kernel
theorem d_M_stepOnce_98 : decode b_M_stepOnce 98 = .ok (.irem, 1) := by decide +kernel
theorem d_M_stepOnce_99 : decode b_M_stepOnce 99 = .ok (.ifCond .ne 12, 3) := by decide +kernel
theorem d_M_stepOnce_102 : decode b_M_stepOnce 102 = .ok (.aload_n 0, 1) := by decide +kernel
theorem d_M_stepOnce_103 : decode b_M_stepOnce 103 = .ok (.invokevirtual 197, 3) := by decide +kernel
theorem d_M_stepOnce_106 : decode b_M_stepOnce 106 = .ok (.ifCond .ne 5, 3) := by decide +kernel
theorem d_M_stepOnce_109 : decode b_M_stepOnce 109 = .ok (.iconst 0, 1) := by decide +kernel
theorem d_M_stepOnce_110 : decode b_M_stepOnce 110 = .ok (.ireturn, 1) := by decide +kernel
theorem d_M_stepOnce_111 : decode b_M_stepOnce 111 = .ok (.aload_n 0, 1) := by decide +kernel
theorem d_M_stepOnce_112 : decode b_M_stepOnce 112 = .ok (.invokevirtual 200, 3) := by decide +kernel
theorem d_M_stepOnce_115 : decode b_M_stepOnce 115 = .ok (.ifCond .ne 5, 3) := by decide +kernel
theorem d_M_stepOnce_118 : decode b_M_stepOnce 118 = .ok (.iconst 0, 1) := by decide +kernel
theorem d_M_stepOnce_119 : decode b_M_stepOnce 119 = .ok (.ireturn, 1) := by decide +kernel
theorem d_M_stepOnce_120 : decode b_M_stepOnce 120 = .ok (.aload_n 0, 1) := by decide +kernel
theorem d_M_stepOnce_121 : decode b_M_stepOnce 121 = .ok (.invokevirtual 203, 3) := by decide +kernel
theorem d_M_stepOnce_124 : decode b_M_stepOnce 124 = .ok (.iconst 0, 1) := by decide +kernel
theorem d_M_stepOnce_125 : decode b_M_stepOnce 125 = .ok (.istore_n 2, 1) := by decide +kernel
theorem d_M_stepOnce_126 : decode b_M_stepOnce 126 = .ok (.iload_n 2, 1) := by decide +kernel
theorem d_M_stepOnce_127 : decode b_M_stepOnce 127 = .ok (.iconst 3, 1) := by decide +kernel
theorem d_M_stepOnce_128 : decode b_M_stepOnce 128 = .ok (.if_icmp .ge 41, 3) := by decide +kernel
theorem d_M_stepOnce_131 : decode b_M_stepOnce 131 = .ok (.aload_n 0, 1) := by decide +kernel
theorem d_M_stepOnce_132 : decode b_M_stepOnce 132 = .ok (.getfield 128, 3) := by decide +kernel
theorem d_M_stepOnce_135 : decode b_M_stepOnce 135 = .ok (.iconst 4, 1) := by decide +kernel
theorem d_M_stepOnce_136 : decode b_M_stepOnce 136 = .ok (.irem, 1) := by decide +kernel
theorem d_M_stepOnce_137 : decode b_M_stepOnce 137 = .ok (.ifCond .ne 32, 3) := by decide +kernel
theorem d_M_stepOnce_140 : decode b_M_stepOnce 140 = .ok (.aload_n 0, 1) := by decide +kernel
theorem d_M_stepOnce_141 : decode b_M_stepOnce 141 = .ok (.getfield 28, 3) := by decide +kernel
theorem d_M_stepOnce_144 : decode b_M_stepOnce 144 = .ok (.iload_n 2, 1) := by decide +kernel
theorem d_M_stepOnce_145 : decode b_M_stepOnce 145 = .ok (.dup2, 1) := by decide +kernel
theorem d_M_stepOnce_146 : decode b_M_stepOnce 146 = .ok (.iaload, 1) := by decide +kernel
theorem d_M_stepOnce_147 : decode b_M_stepOnce 147 = .ok (.aload_n 0, 1) := by decide +kernel
theorem d_M_stepOnce_148 : decode b_M_stepOnce 148 = .ok (.getfield 28, 3) := by decide +kernel
theorem d_M_stepOnce_151 : decode b_M_stepOnce 151 = .ok (.iload_n 2, 1) := by decide +kernel
theorem d_M_stepOnce_152 : decode b_M_stepOnce 152 = .ok (.iaload, 1) := by decide +kernel
theorem d_M_stepOnce_153 : decode b_M_stepOnce 153 = .ok (.ifCond .le 7, 3) := by decide +kernel
theorem d_M_stepOnce_156 : decode b_M_stepOnce 156 = .ok (.iconst 1, 1) := by decide +kernel
theorem d_M_stepOnce_157 : decode b_M_stepOnce 157 = .ok (.goto 4, 3) := by decide +kernel
theorem d_M_stepOnce_160 : decode b_M_stepOnce 160 = .ok (.iconst 0, 1) := by decide +kernel
theorem d_M_stepOnce_161 : decode b_M_stepOnce 161 = .ok (.isub, 1) := by decide +kernel
theorem d_M_stepOnce_162 : decode b_M_stepOnce 162 = .ok (.iastore, 1) := by decide +kernel
theorem d_M_stepOnce_163 : decode b_M_stepOnce 163 = .ok (.iinc 2 1, 3) := by decide +kernel
theorem d_M_stepOnce_166 : decode b_M_stepOnce 166 = .ok (.goto (-40), 3) := by decide +kernel
theorem d_M_stepOnce_169 : decode b_M_stepOnce 169 = .ok (.iconst 1, 1) := by decide +kernel
theorem d_M_stepOnce_170 : decode b_M_stepOnce 170 = .ok (.ireturn, 1) := by decide +kernel
theorem d_M_step_0 : decode b_M_step 0 = .ok (.aload_n 0, 1) := by decide +kernel
theorem d_M_step_1 : decode b_M_step 1 = .ok (.aload_n 0, 1) := by decide +kernel
theorem d_M_step_2 : decode b_M_step 2 = .ok (.getfield 89, 3) := by decide +kernel
theorem d_M_step_5 : decode b_M_step 5 = .ok (.ifCond .ne 7, 3) := by decide +kernel
theorem d_M_step_8 : decode b_M_step 8 = .ok (.iconst 1, 1) := by decide +kernel
theorem d_M_step_9 : decode b_M_step 9 = .ok (.goto 20, 3) := by decide +kernel
theorem d_M_step_12 : decode b_M_step 12 = .ok (.iload_n 1, 1) := by decide +kernel
theorem d_M_step_13 : decode b_M_step 13 = .ok (.iconst 1, 1) := by decide +kernel
theorem d_M_step_14 : decode b_M_step 14 = .ok (.if_icmp .lt 10, 3) := by decide +kernel
theorem d_M_step_17 : decode b_M_step 17 = .ok (.iload_n 1, 1) := by decide +kernel
theorem d_M_step_18 : decode b_M_step 18 = .ok (.sipush 2000, 3) := by decide +kernel
theorem d_M_step_21 : decode b_M_step 21 = .ok (.if_icmp .le 7, 3) := by decide +kernel
theorem d_M_step_24 : decode b_M_step 24 = .ok (.iconst 2, 1) := by decide +kernel
theorem d_M_step_25 : decode b_M_step 25 = .ok (.goto 4, 3) := by decide +kernel
theorem d_M_step_28 : decode b_M_step 28 = .ok (.iconst 0, 1) := by decide +kernel
theorem d_M_step_29 : decode b_M_step 29 = .ok (.putfield 77, 3) := by decide +kernel
theorem d_M_step_32 : decode b_M_step 32 = .ok (.aload_n 0, 1) := by decide +kernel
theorem d_M_step_33 : decode b_M_step 33 = .ok (.getfield 77, 3) := by decide +kernel
theorem d_M_step_36 : decode b_M_step 36 = .ok (.ifCond .eq 5, 3) := by decide +kernel
theorem d_M_step_39 : decode b_M_step 39 = .ok (.iconst 0, 1) := by decide +kernel
theorem d_M_step_40 : decode b_M_step 40 = .ok (.ireturn, 1) := by decide +kernel
theorem d_M_step_41 : decode b_M_step 41 = .ok (.iconst 0, 1) := by decide +kernel
theorem d_M_step_42 : decode b_M_step 42 = .ok (.istore_n 2, 1) := by decide +kernel
theorem d_M_step_43 : decode b_M_step 43 = .ok (.iload_n 2, 1) := by decide +kernel
theorem d_M_step_44 : decode b_M_step 44 = .ok (.iload_n 1, 1) := by decide +kernel
theorem d_M_step_45 : decode b_M_step 45 = .ok (.if_icmp .ge 32, 3) := by decide +kernel
theorem d_M_step_48 : decode b_M_step 48 = .ok (.aload_n 0, 1) := by decide +kernel
theorem d_M_step_49 : decode b_M_step 49 = .ok (.getfield 122, 3) := by decide +kernel
theorem d_M_step_52 : decode b_M_step 52 = .ok (.ifCond .ne 25, 3) := by decide +kernel
theorem d_M_step_55 : decode b_M_step 55 = .ok (.iinc 2 1, 3) := by decide +kernel
theorem d_M_step_58 : decode b_M_step 58 = .ok (.aload_n 0, 1) := by decide +kernel
theorem d_M_step_59 : decode b_M_step 59 = .ok (.aload_n 0, 1) := by decide +kernel
theorem d_M_step_60 : decode b_M_step 60 = .ok (.invokevirtual 206, 3) := by decide +kernel
theorem d_M_step_63 : decode b_M_step 63 = .ok (.ifCond .ne 7, 3) := by decide +kernel
theorem d_M_step_66 : decode b_M_step 66 = .ok (.iconst 1, 1) := by decide +kernel
theorem d_M_step_67 : decode b_M_step 67 = .ok (.goto 4, 3) := by decide +kernel
theorem d_M_step_70 : decode b_M_step 70 = .ok (.iconst 0, 1) := by decide +kernel
theorem d_M_step_71 : decode b_M_step 71 = .ok (.putfield 122, 3) := by decide +kernel
theorem d_M_step_74 : decode b_M_step 74 = .ok (.goto (-31), 3) := by decide +kernel
theorem d_M_step_77 : decode b_M_step 77 = .ok (.iload_n 2, 1) := by decide +kernel
theorem d_M_step_78 : decode b_M_step 78 = .ok (.ireturn, 1) := by decide +kernel
theorem d_M_input_0 : decode b_M_input 0 = .ok (.aload_n 0, 1) := by decide +kernel
theorem d_M_input_1 : decode b_M_input 1 = .ok (.iconst 0, 1) := by decide +kernel
theorem d_M_input_2 : decode b_M_input 2 = .ok (.putfield 77, 3) := by decide +kernel
theorem d_M_input_5 : decode b_M_input 5 = .ok (.aload_n 0, 1) := by decide +kernel
theorem d_M_input_6 : decode b_M_input 6 = .ok (.getfield 89, 3) := by decide +kernel
theorem d_M_input_9 : decode b_M_input 9 = .ok (.ifCond .eq 12, 3) := by decide +kernel
theorem d_M_input_12 : decode b_M_input 12 = .ok (.aload_n 0, 1) := by decide +kernel
theorem d_M_input_13 : decode b_M_input 13 = .ok (.getfield 134, 3) := by decide +kernel
theorem d_M_input_16 : decode b_M_input 16 = .ok (.bipush 64, 2) := by decide +kernel
theorem d_M_input_18 : decode b_M_input 18 = .ok (.if_icmp .ne 5, 3) := by decide +kernel
theorem d_M_input_21 : decode b_M_input 21 = .ok (.iconst 0, 1) := by decide +kernel
theorem d_M_input_22 : decode b_M_input 22 = .ok (.ireturn, 1) := by decide +kernel
theorem d_M_input_23 : decode b_M_input 23 = .ok (.aload_n 0, 1) := by decide +kernel
theorem d_M_input_24 : decode b_M_input 24 = .ok (.getfield 62, 3) := by decide +kernel
theorem d_M_input_27 : decode b_M_input 27 = .ok (.aload_n 0, 1) := by decide +kernel
theorem d_M_input_28 : decode b_M_input 28 = .ok (.getfield 134, 3) := by decide +kernel
theorem d_M_input_31 : decode b_M_input 31 = .ok (.iload_n 1, 1) := by decide +kernel
theorem d_M_input_32 : decode b_M_input 32 = .ok (.ldc 156, 2) := by decide +kernel
theorem d_M_input_34 : decode b_M_input 34 = .ok (.iand, 1) := by decide +kernel
theorem d_M_input_35 : decode b_M_input 35 = .ok (.iastore, 1) := by decide +kernel
theorem d_M_input_36 : decode b_M_input 36 = .ok (.aload_n 0, 1) := by decide +kernel
theorem d_M_input_37 : decode b_M_input 37 = .ok (.dup, 1) := by decide +kernel
theorem d_M_input_38 : decode b_M_input 38 = .ok (.getfield 134, 3) := by decide +kernel
theorem d_M_input_41 : decode b_M_input 41 = .ok (.iconst 1, 1) := by decide +kernel
theorem d_M_input_42 : decode b_M_input 42 = .ok (.iadd, 1) := by decide +kernel
theorem d_M_input_43 : decode b_M_input 43 = .ok (.putfield 134, 3) := by decide +kernel
theorem d_M_input_46 : decode b_M_input 46 = .ok (.iconst 1, 1) := by decide +kernel
theorem d_M_input_47 : decode b_M_input 47 = .ok (.ireturn, 1) := by decide +kernel
theorem d_M_output_0 : decode b_M_output 0 = .ok (.aload_n 0, 1) := by decide +kernel
theorem d_M_output_1 : decode b_M_output 1 = .ok (.getfield 89, 3) := by decide +kernel
theorem d_M_output_4 : decode b_M_output 4 = .ok (.ifCond .eq 26, 3) := by decide +kernel
theorem d_M_output_7 : decode b_M_output 7 = .ok (.iload_n 1, 1) := by decide +kernel
theorem d_M_output_8 : decode b_M_output 8 = .ok (.ifCond .lt 22, 3) := by decide +kernel
theorem d_M_output_11 : decode b_M_output 11 = .ok (.iload_n 1, 1) := by decide +kernel
theorem d_M_output_12 : decode b_M_output 12 = .ok (.aload_n 0, 1) := by decide +kernel
theorem d_M_output_13 : decode b_M_output 13 = .ok (.getfield 140, 3) := by decide +kernel
theorem d_M_output_16 : decode b_M_output 16 = .ok (.if_icmp .ge 14, 3) := by decide +kernel
theorem d_M_output_19 : decode b_M_output 19 = .ok (.iload_n 1, 1) := by decide +kernel
theorem d_M_output_20 : decode b_M_output 20 = .ok (.sipush 300, 3) := by decide +kernel
theorem d_M_output_23 : decode b_M_output 23 = .ok (.if_icmp .ge 7, 3) := by decide +kernel
theorem d_M_output_26 : decode b_M_output 26 = .ok (.iconst 1, 1) := by decide +kernel
theorem d_M_output_27 : decode b_M_output 27 = .ok (.goto 4, 3) := by decide +kernel
theorem d_M_output_30 : decode b_M_output 30 = .ok (.iconst 0, 1) := by decide +kernel
theorem d_M_output_31 : decode b_M_output 31 = .ok (.istore_n 2, 1) := by decide +kernel
theorem d_M_output_32 : decode b_M_output 32 = .ok (.aload_n 0, 1) := by decide +kernel
theorem d_M_output_33 : decode b_M_output 33 = .ok (.iload_n 2, 1) := by decide +kernel
theorem d_M_output_34 : decode b_M_output 34 = .ok (.ifCond .eq 7, 3) := by decide +kernel
theorem d_M_output_37 : decode b_M_output 37 = .ok (.iconst 0, 1) := by decide +kernel
theorem d_M_output_38 : decode b_M_output 38 = .ok (.goto 4, 3) := by decide +kernel
theorem d_M_output_41 : decode b_M_output 41 = .ok (.iconst 1, 1) := by decide +kernel
theorem d_M_output_42 : decode b_M_output 42 = .ok (.putfield 77, 3) := by decide +kernel
theorem d_M_output_45 : decode b_M_output 45 = .ok (.iload_n 2, 1) := by decide +kernel
theorem d_M_output_46 : decode b_M_output 46 = .ok (.ifCond .eq 12, 3) := by decide +kernel
theorem d_M_output_49 : decode b_M_output 49 = .ok (.aload_n 0, 1) := by decide +kernel
theorem d_M_output_50 : decode b_M_output 50 = .ok (.getfield 65, 3) := by decide +kernel
theorem d_M_output_53 : decode b_M_output 53 = .ok (.iload_n 1, 1) := by decide +kernel
theorem d_M_output_54 : decode b_M_output 54 = .ok (.iaload, 1) := by decide +kernel
theorem d_M_output_55 : decode b_M_output 55 = .ok (.goto 4, 3) := by decide +kernel
theorem d_M_output_58 : decode b_M_output 58 = .ok (.iconst 0, 1) := by decide +kernel
theorem d_M_output_59 : decode b_M_output 59 = .ok (.ireturn, 1) := by decide +kernel
theorem d_M_perfect_0 : decode b_M_perfect 0 = .ok (.aload_n 0, 1) := by decide +kernel
theorem d_M_perfect_1 : decode b_M_perfect 1 = .ok (.getfield 89, 3) := by decide +kernel
theorem d_M_perfect_4 : decode b_M_perfect 4 = .ok (.ifCond .eq 26, 3) := by decide +kernel
theorem d_M_perfect_7 : decode b_M_perfect 7 = .ok (.iload_n 1, 1) := by decide +kernel
theorem d_M_perfect_8 : decode b_M_perfect 8 = .ok (.ifCond .lt 22, 3) := by decide +kernel
theorem d_M_perfect_11 : decode b_M_perfect 11 = .ok (.iload_n 1, 1) := by decide +kernel
theorem d_M_perfect_12 : decode b_M_perfect 12 = .ok (.aload_n 0, 1) := by decide +kernel
theorem d_M_perfect_13 : decode b_M_perfect 13 = .ok (.getfield 149, 3) := by decide +kernel
theorem d_M_perfect_16 : decode b_M_perfect 16 = .ok (.if_icmp .ge 14, 3) := by decide +kernel
theorem d_M_perfect_19 : decode b_M_perfect 19 = .ok (.iload_n 1, 1) := by decide +kernel
theorem d_M_perfect_20 : decode b_M_perfect 20 = .ok (.sipush 300, 3) := by decide +kernel
theorem d_M_perfect_23 : decode b_M_perfect 23 = .ok (.if_icmp .ge 7, 3) := by decide +kernel
theorem d_M_perfect_26 : decode b_M_perfect 26 = .ok (.iconst 1, 1) := by decide +kernel
theorem d_M_perfect_27 : decode b_M_perfect 27 = .ok (.goto 4, 3) := by decide +kernel
theorem d_M_perfect_30 : decode b_M_perfect 30 = .ok (.iconst 0, 1) := by decide +kernel
theorem d_M_perfect_31 : decode b_M_perfect 31 = .ok (.istore_n 2, 1) := by decide +kernel
theorem d_M_perfect_32 : decode b_M_perfect 32 = .ok (.aload_n 0, 1) := by decide +kernel
theorem d_M_perfect_33 : decode b_M_perfect 33 = .ok (.iload_n 2, 1) := by decide +kernel
theorem d_M_perfect_34 : decode b_M_perfect 34 = .ok (.ifCond .eq 7, 3) := by decide +kernel
theorem d_M_perfect_37 : decode b_M_perfect 37 = .ok (.iconst 0, 1) := by decide +kernel
theorem d_M_perfect_38 : decode b_M_perfect 38 = .ok (.goto 4, 3) := by decide +kernel
theorem d_M_perfect_41 : decode b_M_perfect 41 = .ok (.iconst 1, 1) := by decide +kernel
theorem d_M_perfect_42 : decode b_M_perfect 42 = .ok (.putfield 77, 3) := by decide +kernel
theorem d_M_perfect_45 : decode b_M_perfect 45 = .ok (.iload_n 2, 1) := by decide +kernel
theorem d_M_perfect_46 : decode b_M_perfect 46 = .ok (.ifCond .eq 12, 3) := by decide +kernel
theorem d_M_perfect_49 : decode b_M_perfect 49 = .ok (.aload_n 0, 1) := by decide +kernel
theorem d_M_perfect_50 : decode b_M_perfect 50 = .ok (.getfield 74, 3) := by decide +kernel
theorem d_M_perfect_53 : decode b_M_perfect 53 = .ok (.iload_n 1, 1) := by decide +kernel
theorem d_M_perfect_54 : decode b_M_perfect 54 = .ok (.iaload, 1) := by decide +kernel
theorem d_M_perfect_55 : decode b_M_perfect 55 = .ok (.goto 4, 3) := by decide +kernel
theorem d_M_perfect_58 : decode b_M_perfect 58 = .ok (.iconst 0, 1) := by decide +kernel
theorem d_M_perfect_59 : decode b_M_perfect 59 = .ok (.ireturn, 1) := by decide +kernel
theorem d_M_isModule_0 : decode b_M_isModule 0 = .ok (.iload_n 0, 1) := by decide +kernel
theorem d_M_isModule_1 : decode b_M_isModule 1 = .ok (.ifCond .lt 12, 3) := by decide +kernel
theorem d_M_isModule_4 : decode b_M_isModule 4 = .ok (.iload_n 0, 1) := by decide +kernel
theorem d_M_isModule_5 : decode b_M_isModule 5 = .ok (.iconst 3, 1) := by decide +kernel
theorem d_M_isModule_6 : decode b_M_isModule 6 = .ok (.if_icmp .ge 7, 3) := by decide +kernel
theorem d_M_isModule_9 : decode b_M_isModule 9 = .ok (.iconst 1, 1) := by decide +kernel
theorem d_M_isModule_10 : decode b_M_isModule 10 = .ok (.goto 4, 3) := by decide +kernel
theorem d_M_isModule_13 : decode b_M_isModule 13 = .ok (.iconst 0, 1) := by decide +kernel
theorem d_M_isModule_14 : decode b_M_isModule 14 = .ok (.ireturn, 1) := by decide +kernel
theorem d_M_flip_0 : decode b_M_flip 0 = .ok (.aload_n 0, 1) := by decide +kernel
theorem d_M_flip_1 : decode b_M_flip 1 = .ok (.getfield 89, 3) := by decide +kernel
theorem d_M_flip_4 : decode b_M_flip 4 = .ok (.ifCond .eq 74, 3) := by decide +kernel
theorem d_M_flip_7 : decode b_M_flip 7 = .ok (.iload_n 1, 1) := by decide +kernel
theorem d_M_flip_8 : decode b_M_flip 8 = .ok (.invokestatic 209, 3) := by decide +kernel
theorem d_M_flip_11 : decode b_M_flip 11 = .ok (.ifCond .eq 67, 3) := by decide +kernel
theorem d_M_flip_14 : decode b_M_flip 14 = .ok (.iload 4, 2) := by decide +kernel
theorem d_M_flip_16 : decode b_M_flip 16 = .ok (.ifCond .lt 62, 3) := by decide +kernel
theorem d_M_flip_19 : decode b_M_flip 19 = .ok (.iload_n 3, 1) := by decide +kernel
theorem d_M_flip_20 : decode b_M_flip 20 = .ok (.ifCond .lt 58, 3) := by decide +kernel
theorem d_M_flip_23 : decode b_M_flip 23 = .ok (.iload_n 2, 1) := by decide +kernel
theorem d_M_flip_24 : decode b_M_flip 24 = .ok (.ifCond .ne 16, 3) := by decide +kernel
theorem d_M_flip_27 : decode b_M_flip 27 = .ok (.iload_n 3, 1) := by decide +kernel
theorem d_M_flip_28 : decode b_M_flip 28 = .ok (.bipush 8, 2) := by decide +kernel
theorem d_M_flip_30 : decode b_M_flip 30 = .ok (.if_icmp .ge 10, 3) := by decide +kernel
theorem d_M_flip_33 : decode b_M_flip 33 = .ok (.iload 4, 2) := by decide +kernel
theorem d_M_flip_35 : decode b_M_flip 35 = .ok (.bipush 16, 2) := by decide +kernel
theorem d_M_flip_37 : decode b_M_flip 37 = .ok (.if_icmp .lt 37, 3) := by decide +kernel
theorem d_M_flip_40 : decode b_M_flip 40 = .ok (.iload_n 2, 1) := by decide +kernel
theorem d_M_flip_41 : decode b_M_flip 41 = .ok (.iconst 1, 1) := by decide +kernel
theorem d_M_flip_42 : decode b_M_flip 42 = .ok (.if_icmp .ne 16, 3) := by decide +kernel
theorem d_M_flip_45 : decode b_M_flip 45 = .ok (.iload_n 3, 1) := by decide +kernel
theorem d_M_flip_46 : decode b_M_flip 46 = .ok (.bipush 32, 2) := by decide +kernel
theorem d_M_flip_48 : decode b_M_flip 48 = .ok (.if_icmp .ge 10, 3) := by decide +kernel
theorem d_M_flip_51 : decode b_M_flip 51 = .ok (.iload 4, 2) := by decide +kernel
theorem d_M_flip_53 : decode b_M_flip 53 = .ok (.bipush 22, 2) := by decide +kernel
theorem d_M_flip_55 : decode b_M_flip 55 = .ok (.if_icmp .lt 19, 3) := by decide +kernel
theorem d_M_flip_58 : decode b_M_flip 58 = .ok (.iload_n 2, 1) := by decide +kernel
theorem d_M_flip_59 : decode b_M_flip 59 = .ok (.iconst 2, 1) := by decide +kernel
theorem d_M_flip_60 : decode b_M_flip 60 = .ok (.if_icmp .ne 18, 3) := by decide +kernel
theorem d_M_flip_63 : decode b_M_flip 63 = .ok (.iload_n 3, 1) := by decide +kernel
theorem d_M_flip_64 : decode b_M_flip 64 = .ok (.ifCond .ne 14, 3) := by decide +kernel
theorem d_M_flip_67 : decode b_M_flip 67 = .ok (.iload 4, 2) := by decide +kernel
theorem d_M_flip_69 : decode b_M_flip 69 = .ok (.bipush 6, 2) := by decide +kernel
theorem d_M_flip_71 : decode b_M_flip 71 = .ok (.if_icmp .ge 7, 3) := by decide +kernel
theorem d_M_flip_74 : decode b_M_flip 74 = .ok (.iconst 1, 1) := by decide +kernel
theorem d_M_flip_75 : decode b_M_flip 75 = .ok (.goto 4, 3) := by decide +kernel
theorem d_M_flip_78 : decode b_M_flip 78 = .ok (.iconst 0, 1) := by decide +kernel
theorem d_M_flip_79 : decode b_M_flip 79 = .ok (.istore 5, 2) := by decide +kernel
theorem d_M_flip_81 : decode b_M_flip 81 = .ok (.aload_n 0, 1) := by decide +kernel
theorem d_M_flip_82 : decode b_M_flip 82 = .ok (.iload 5, 2) := by decide +kernel
theorem d_M_flip_84 : decode b_M_flip 84 = .ok (.ifCond .eq 7, 3) := by decide +kernel
theorem d_M_flip_87 : decode b_M_flip 87 = .ok (.iconst 0, 1) := by decide +kernel
theorem d_M_flip_88 : decode b_M_flip 88 = .ok (.goto 4, 3) := by decide +kernel
theorem d_M_flip_91 : decode b_M_flip 91 = .ok (.iconst 1, 1) := by decide +kernel
theorem d_M_flip_92 : decode b_M_flip 92 = .ok (.putfield 77, 3) := by decide +kernel
theorem d_M_flip_95 : decode b_M_flip 95 = .ok (.iload 5, 2) := by decide +kernel
theorem d_M_flip_97 : decode b_M_flip 97 = .ok (.ifCond .ne 4, 3) := by decide +kernel
theorem d_M_flip_100 : decode b_M_flip 100 = .ok (.return_, 1) := by decide +kernel
theorem d_M_flip_101 : decode b_M_flip 101 = .ok (.iload_n 2, 1) := by decide +kernel
theorem d_M_flip_102 : decode b_M_flip 102 = .ok (.ifCond .ne 21, 3) := by decide +kernel
theorem d_M_flip_105 : decode b_M_flip 105 = .ok (.aload_n 0, 1) := by decide +kernel
theorem d_M_flip_106 : decode b_M_flip 106 = .ok (.getfield 13, 3) := by decide +kernel
theorem d_M_flip_109 : decode b_M_flip 109 = .ok (.bipush 8, 2) := by decide +kernel
theorem d_M_flip_111 : decode b_M_flip 111 = .ok (.iload_n 1, 1) := by decide +kernel
theorem d_M_flip_112 : decode b_M_flip 112 = .ok (.imul, 1) := by decide +kernel
theorem d_M_flip_113 : decode b_M_flip 113 = .ok (.iload_n 3, 1) := by decide +kernel
theorem d_M_flip_114 : decode b_M_flip 114 = .ok (.iadd, 1) := by decide +kernel
theorem d_M_flip_115 : decode b_M_flip 115 = .ok (.dup2, 1) := by decide +kernel
theorem d_M_flip_116 : decode b_M_flip 116 = .ok (.iaload, 1) := by decide +kernel
theorem d_M_flip_117 : decode b_M_flip 117 = .ok (.iconst 1, 1) := by decide +kernel
theorem d_M_flip_118 : decode b_M_flip 118 = .ok (.iload 4, 2) := by decide +kernel
theorem d_M_flip_120 : decode b_M_flip 120 = .ok (.ishl, 1) := by decide +kernel
theorem d_M_flip_121 : decode b_M_flip 121 = .ok (.ixor, 1) := by decide +kernel
theorem d_M_flip_122 : decode b_M_flip 122 = .ok (.iastore, 1) := by decide +kernel
theorem d_M_flip_123 : decode b_M_flip 123 = .ok (.iload_n 2, 1) := by decide +kernel
theorem d_M_flip_124 : decode b_M_flip 124 = .ok (.iconst 1, 1) := by decide +kernel
theorem d_M_flip_125 : decode b_M_flip 125 = .ok (.if_icmp .ne 21, 3) := by decide +kernel
theorem d_M_flip_128 : decode b_M_flip 128 = .ok (.aload_n 0, 1) := by decide +kernel
theorem d_M_flip_129 : decode b_M_flip 129 = .ok (.getfield 16, 3) := by decide +kernel
theorem d_M_flip_132 : decode b_M_flip 132 = .ok (.bipush 32, 2) := by decide +kernel
theorem d_M_flip_134 : decode b_M_flip 134 = .ok (.iload_n 1, 1) := by decide +kernel
theorem d_M_flip_135 : decode b_M_flip 135 = .ok (.imul, 1) := by decide +kernel
theorem d_M_flip_136 : decode b_M_flip 136 = .ok (.iload_n 3, 1) := by decide +kernel
theorem d_M_flip_137 : decode b_M_flip 137 = .ok (.iadd, 1) := by decide +kernel
theorem d_M_flip_138 : decode b_M_flip 138 = .ok (.dup2, 1) := by decide +kernel
theorem d_M_flip_139 : decode b_M_flip 139 = .ok (.iaload, 1) := by decide +kernel
theorem d_M_flip_140 : decode b_M_flip 140 = .ok (.iconst 1, 1) := by decide +kernel
theorem d_M_flip_141 : decode b_M_flip 141 = .ok (.iload 4, 2) := by decide +kernel
theorem d_M_flip_143 : decode b_M_flip 143 = .ok (.ishl, 1) := by decide +kernel
theorem d_M_flip_144 : decode b_M_flip 144 = .ok (.ixor, 1) := by decide +kernel
theorem d_M_flip_145 : decode b_M_flip 145 = .ok (.iastore, 1) := by decide +kernel
theorem d_M_flip_146 : decode b_M_flip 146 = .ok (.iload_n 2, 1) := by decide +kernel
theorem d_M_flip_147 : decode b_M_flip 147 = .ok (.iconst 2, 1) := by decide +kernel
theorem d_M_flip_148 : decode b_M_flip 148 = .ok (.if_icmp .ne 25, 3) := by decide +kernel
theorem d_M_flip_151 : decode b_M_flip 151 = .ok (.aload_n 0, 1) := by decide +kernel
theorem d_M_flip_152 : decode b_M_flip 152 = .ok (.getfield 19, 3) := by decide +kernel
theorem d_M_flip_155 : decode b_M_flip 155 = .ok (.iload_n 1, 1) := by decide +kernel
theorem d_M_flip_156 : decode b_M_flip 156 = .ok (.aload_n 0, 1) := by decide +kernel
theorem d_M_flip_157 : decode b_M_flip 157 = .ok (.getfield 19, 3) := by decide +kernel
theorem d_M_flip_160 : decode b_M_flip 160 = .ok (.iload_n 1, 1) := by decide +kernel
theorem d_M_flip_161 : decode b_M_flip 161 = .ok (.iaload, 1) := by decide +kernel
theorem d_M_flip_162 : decode b_M_flip 162 = .ok (.iconst 1, 1) := by decide +kernel
theorem d_M_flip_163 : decode b_M_flip 163 = .ok (.iload 4, 2) := by decide +kernel
theorem d_M_flip_165 : decode b_M_flip 165 = .ok (.ishl, 1) := by decide +kernel
theorem d_M_flip_166 : decode b_M_flip 166 = .ok (.ixor, 1) := by decide +kernel
theorem d_M_flip_167 : decode b_M_flip 167 = .ok (.aload_n 0, 1) := by decide +kernel
theorem d_M_flip_168 : decode b_M_flip 168 = .ok (.getfield 93, 3) := by decide +kernel
theorem d_M_flip_171 : decode b_M_flip 171 = .ok (.irem, 1) := by decide +kernel
theorem d_M_flip_172 : decode b_M_flip 172 = .ok (.iastore, 1) := by decide +kernel
theorem d_M_flip_173 : decode b_M_flip 173 = .ok (.return_, 1) := by decide +kernel
theorem d_M_freeze_0 : decode b_M_freeze 0 = .ok (.aload_n 0, 1) := by decide +kernel
theorem d_M_freeze_1 : decode b_M_freeze 1 = .ok (.iconst 0, 1) := by decide +kernel
theorem d_M_freeze_2 : decode b_M_freeze 2 = .ok (.putfield 77, 3) := by decide +kernel
theorem d_M_freeze_5 : decode b_M_freeze 5 = .ok (.aload_n 0, 1) := by decide +kernel
theorem d_M_freeze_6 : decode b_M_freeze 6 = .ok (.getfield 89, 3) := by decide +kernel
theorem d_M_freeze_9 : decode b_M_freeze 9 = .ok (.ifCond .eq 10, 3) := by decide +kernel
theorem d_M_freeze_12 : decode b_M_freeze 12 = .ok (.iload_n 1, 1) := by decide +kernel
theorem d_M_freeze_13 : decode b_M_freeze 13 = .ok (.invokestatic 209, 3) := by decide +kernel
theorem d_M_freeze_16 : decode b_M_freeze 16 = .ok (.ifCond .ne 5, 3) := by decide +kernel
theorem d_M_freeze_19 : decode b_M_freeze 19 = .ok (.iconst 0, 1) := by decide +kernel
theorem d_M_freeze_20 : decode b_M_freeze 20 = .ok (.ireturn, 1) := by decide +kernel
theorem d_M_freeze_21 : decode b_M_freeze 21 = .ok (.aload_n 0, 1) := by decide +kernel
theorem d_M_freeze_22 : decode b_M_freeze 22 = .ok (.getfield 31, 3) := by decide +kernel
theorem d_M_freeze_25 : decode b_M_freeze 25 = .ok (.iload_n 1, 1) := by decide +kernel
theorem d_M_freeze_26 : decode b_M_freeze 26 = .ok (.iload_n 2, 1) := by decide +kernel
theorem d_M_freeze_27 : decode b_M_freeze 27 = .ok (.bastore, 1) := by decide +kernel
theorem d_M_freeze_28 : decode b_M_freeze 28 = .ok (.iconst 1, 1) := by decide +kernel
theorem d_M_freeze_29 : decode b_M_freeze 29 = .ok (.ireturn, 1) := by decide +kernel
theorem d_M_skip_0 : decode b_M_skip 0 = .ok (.aload_n 0, 1) := by decide +kernel
theorem d_M_skip_1 : decode b_M_skip 1 = .ok (.iconst 0, 1) := by decide +kernel
theorem d_M_skip_2 : decode b_M_skip 2 = .ok (.putfield 77, 3) := by decide +kernel
theorem d_M_skip_5 : decode b_M_skip 5 = .ok (.aload_n 0, 1) := by decide +kernel
theorem d_M_skip_6 : decode b_M_skip 6 = .ok (.getfield 89, 3) := by decide +kernel
theorem d_M_skip_9 : decode b_M_skip 9 = .ok (.ifCond .eq 10, 3) := by decide +kernel
theorem d_M_skip_12 : decode b_M_skip 12 = .ok (.iload_n 1, 1) := by decide +kernel
theorem d_M_skip_13 : decode b_M_skip 13 = .ok (.invokestatic 209, 3) := by decide +kernel
theorem d_M_skip_16 : decode b_M_skip 16 = .ok (.ifCond .ne 5, 3) := by decide +kernel
theorem d_M_skip_19 : decode b_M_skip 19 = .ok (.iconst 0, 1) := by decide +kernel
theorem d_M_skip_20 : decode b_M_skip 20 = .ok (.ireturn, 1) := by decide +kernel
theorem d_M_skip_21 : decode b_M_skip 21 = .ok (.aload_n 0, 1) := by decide +kernel
theorem d_M_skip_22 : decode b_M_skip 22 = .ok (.getfield 35, 3) := by decide +kernel
theorem d_M_skip_25 : decode b_M_skip 25 = .ok (.iload_n 1, 1) := by decide +kernel
theorem d_M_skip_26 : decode b_M_skip 26 = .ok (.iconst 1, 1) := by decide +kernel
theorem d_M_skip_27 : decode b_M_skip 27 = .ok (.bastore, 1) := by decide +kernel
theorem d_M_skip_28 : decode b_M_skip 28 = .ok (.iconst 1, 1) := by decide +kernel
theorem d_M_skip_29 : decode b_M_skip 29 = .ok (.ireturn, 1) := by decide +kernel
theorem d_M_swap_0 : decode b_M_swap 0 = .ok (.aload_n 0, 1) := by decide +kernel
theorem d_M_swap_1 : decode b_M_swap 1 = .ok (.iconst 0, 1) := by decide +kernel
theorem d_M_swap_2 : decode b_M_swap 2 = .ok (.putfield 77, 3) := by decide +kernel
theorem d_M_swap_5 : decode b_M_swap 5 = .ok (.aload_n 0, 1) := by decide +kernel
theorem d_M_swap_6 : decode b_M_swap 6 = .ok (.getfield 89, 3) := by decide +kernel
theorem d_M_swap_9 : decode b_M_swap 9 = .ok (.ifCond .eq 17, 3) := by decide +kernel
theorem d_M_swap_12 : decode b_M_swap 12 = .ok (.iload_n 1, 1) := by decide +kernel
theorem d_M_swap_13 : decode b_M_swap 13 = .ok (.invokestatic 209, 3) := by decide +kernel
theorem d_M_swap_16 : decode b_M_swap 16 = .ok (.ifCond .eq 10, 3) := by decide +kernel
theorem d_M_swap_19 : decode b_M_swap 19 = .ok (.aload_n 0, 1) := by decide +kernel
theorem d_M_swap_20 : decode b_M_swap 20 = .ok (.getfield 122, 3) := by decide +kernel
theorem d_M_swap_23 : decode b_M_swap 23 = .ok (.ifCond .eq 5, 3) := by decide +kernel
theorem d_M_swap_26 : decode b_M_swap 26 = .ok (.iconst 0, 1) := by decide +kernel
theorem d_M_swap_27 : decode b_M_swap 27 = .ok (.ireturn, 1) := by decide +kernel
theorem d_M_swap_28 : decode b_M_swap 28 = .ok (.aload_n 0, 1) := by decide +kernel
theorem d_M_swap_29 : decode b_M_swap 29 = .ok (.invokevirtual 175, 3) := by decide +kernel
theorem d_M_swap_32 : decode b_M_swap 32 = .ok (.aload_n 0, 1) := by decide +kernel
theorem d_M_swap_33 : decode b_M_swap 33 = .ok (.getfield 22, 3) := by decide +kernel
theorem d_M_swap_36 : decode b_M_swap 36 = .ok (.iload_n 1, 1) := by decide +kernel
theorem d_M_swap_37 : decode b_M_swap 37 = .ok (.iaload, 1) := by decide +kernel
theorem d_M_swap_38 : decode b_M_swap 38 = .ok (.ifCond .ne 7, 3) := by decide +kernel
theorem d_M_swap_41 : decode b_M_swap 41 = .ok (.iconst 1, 1) := by decide +kernel
theorem d_M_swap_42 : decode b_M_swap 42 = .ok (.goto 4, 3) := by decide +kernel
theorem d_M_swap_45 : decode b_M_swap 45 = .ok (.iconst 0, 1) := by decide +kernel
theorem d_M_swap_46 : decode b_M_swap 46 = .ok (.isub, 1) := by decide +kernel
theorem d_M_swap_47 : decode b_M_swap 47 = .ok (.istore_n 2, 1) := by decide +kernel
theorem d_M_swap_48 : decode b_M_swap 48 = .ok (.iload_n 2, 1) := by decide +kernel
theorem d_M_swap_49 : decode b_M_swap 49 = .ok (.ifCond .eq 15, 3) := by decide +kernel
theorem d_M_swap_52 : decode b_M_swap 52 = .ok (.iload_n 2, 1) := by decide +kernel
theorem d_M_swap_53 : decode b_M_swap 53 = .ok (.iconst 1, 1) := by decide +kernel
theorem d_M_swap_54 : decode b_M_swap 54 = .ok (.if_icmp .ne 12, 3) := by decide +kernel
theorem d_M_swap_57 : decode b_M_swap 57 = .ok (.aload_n 0, 1) := by decide +kernel
theorem d_M_swap_58 : decode b_M_swap 58 = .ok (.getfield 125, 3) := by decide +kernel
theorem d_M_swap_61 : decode b_M_swap 61 = .ok (.ifCond .ne 5, 3) := by decide +kernel
theorem d_M_swap_64 : decode b_M_swap 64 = .ok (.iconst 0, 1) := by decide +kernel
theorem d_M_swap_65 : decode b_M_swap 65 = .ok (.ireturn, 1) := by decide +kernel
theorem d_M_swap_66 : decode b_M_swap 66 = .ok (.aload_n 0, 1) := by decide +kernel
theorem d_M_swap_67 : decode b_M_swap 67 = .ok (.iload_n 1, 1) := by decide +kernel
theorem d_M_swap_68 : decode b_M_swap 68 = .ok (.invokevirtual 152, 3) := by decide +kernel
theorem d_M_swap_71 : decode b_M_swap 71 = .ok (.aload_n 0, 1) := by decide +kernel
theorem d_M_swap_72 : decode b_M_swap 72 = .ok (.getfield 22, 3) := by decide +kernel
theorem d_M_swap_75 : decode b_M_swap 75 = .ok (.iload_n 1, 1) := by decide +kernel
theorem d_M_swap_76 : decode b_M_swap 76 = .ok (.iconst 1, 1) := by decide +kernel
theorem d_M_swap_77 : decode b_M_swap 77 = .ok (.iastore, 1) := by decide +kernel
theorem d_M_swap_78 : decode b_M_swap 78 = .ok (.aload_n 0, 1) := by decide +kernel
theorem d_M_swap_79 : decode b_M_swap 79 = .ok (.getfield 25, 3) := by decide +kernel
theorem d_M_swap_82 : decode b_M_swap 82 = .ok (.iload_n 1, 1) := by decide +kernel
theorem d_M_swap_83 : decode b_M_swap 83 = .ok (.iconst 0, 1) := by decide +kernel
theorem d_M_swap_84 : decode b_M_swap 84 = .ok (.iastore, 1) := by decide +kernel
theorem d_M_swap_85 : decode b_M_swap 85 = .ok (.iconst 1, 1) := by decide +kernel
theorem d_M_swap_86 : decode b_M_swap 86 = .ok (.ireturn, 1) := by decide +kernel
theorem d_M_allow_0 : decode b_M_allow 0 = .ok (.aload_n 0, 1) := by decide +kernel
theorem d_M_allow_1 : decode b_M_allow 1 = .ok (.iconst 0, 1) := by decide +kernel
theorem d_M_allow_2 : decode b_M_allow 2 = .ok (.putfield 77, 3) := by decide +kernel
theorem d_M_allow_5 : decode b_M_allow 5 = .ok (.aload_n 0, 1) := by decide +kernel
theorem d_M_allow_6 : decode b_M_allow 6 = .ok (.iload_n 1, 1) := by decide +kernel
theorem d_M_allow_7 : decode b_M_allow 7 = .ok (.putfield 125, 3) := by decide +kernel
theorem d_M_allow_10 : decode b_M_allow 10 = .ok (.return_, 1) := by decide +kernel
theorem d_M_module_0 : decode b_M_module 0 = .ok (.aload_n 0, 1) := by decide +kernel
theorem d_M_module_1 : decode b_M_module 1 = .ok (.iconst 0, 1) := by decide +kernel
theorem d_M_module_2 : decode b_M_module 2 = .ok (.putfield 77, 3) := by decide +kernel
theorem d_M_module_5 : decode b_M_module 5 = .ok (.aload_n 0, 1) := by decide +kernel
theorem d_M_module_6 : decode b_M_module 6 = .ok (.getfield 89, 3) := by decide +kernel
theorem d_M_module_9 : decode b_M_module 9 = .ok (.ifCond .eq 19, 3) := by decide +kernel
theorem d_M_module_12 : decode b_M_module 12 = .ok (.iload_n 1, 1) := by decide +kernel
theorem d_M_module_13 : decode b_M_module 13 = .ok (.invokestatic 209, 3) := by decide +kernel
theorem d_M_module_16 : decode b_M_module 16 = .ok (.ifCond .eq 12, 3) := by decide +kernel
theorem d_M_module_19 : decode b_M_module 19 = .ok (.iload_n 2, 1) := by decide +kernel
theorem d_M_module_20 : decode b_M_module 20 = .ok (.ifCond .lt 8, 3) := by decide +kernel
theorem d_M_module_23 : decode b_M_module 23 = .ok (.iload_n 2, 1) := by decide +kernel
theorem d_M_module_24 : decode b_M_module 24 = .ok (.iconst 5, 1) := by decide +kernel
theorem d_M_module_25 : decode b_M_module 25 = .ok (.if_icmp .le 5, 3) := by decide +kernel
theorem d_M_module_28 : decode b_M_module 28 = .ok (.iconst (-1), 1) := by decide +kernel
theorem d_M_module_29 : decode b_M_module 29 = .ok (.ireturn, 1) := by decide +kernel
theorem d_M_module_30 : decode b_M_module 30 = .ok (.iload_n 2, 1) := by decide +kernel
theorem d_M_module_31 : decode b_M_module 31 = .ok (.ifCond .ne 12, 3) := by decide +kernel
theorem d_M_module_34 : decode b_M_module 34 = .ok (.aload_n 0, 1) := by decide +kernel
theorem d_M_module_35 : decode b_M_module 35 = .ok (.getfield 22, 3) := by decide +kernel
theorem d_M_module_38 : decode b_M_module 38 = .ok (.iload_n 1, 1) := by decide +kernel
theorem d_M_module_39 : decode b_M_module 39 = .ok (.iaload, 1) := by decide +kernel
theorem d_M_module_40 : decode b_M_module 40 = .ok (.goto 65, 3) := by decide +kernel
theorem d_M_module_43 : decode b_M_module 43 = .ok (.iload_n 2, 1) := by decide +kernel
theorem d_M_module_44 : decode b_M_module 44 = .ok (.iconst 1, 1) := by decide +kernel
theorem d_M_module_45 : decode b_M_module 45 = .ok (.if_icmp .ne 12, 3) := by decide +kernel
theorem d_M_module_48 : decode b_M_module 48 = .ok (.aload_n 0, 1) := by decide +kernel
theorem d_M_module_49 : decode b_M_module 49 = .ok (.getfield 25, 3) := by decide +kernel
theorem d_M_module_52 : decode b_M_module 52 = .ok (.iload_n 1, 1) := by decide +kernel
theorem d_M_module_53 : decode b_M_module 53 = .ok (.iaload, 1) := by decide +kernel
theorem d_M_module_54 : decode b_M_module 54 = .ok (.goto 51, 3) := by decide +kernel
theorem d_M_module_57 : decode b_M_module 57 = .ok (.iload_n 2, 1) := by decide +kernel
theorem d_M_module_58 : decode b_M_module 58 = .ok (.iconst 2, 1) := by decide +kernel
theorem d_M_module_59 : decode b_M_module 59 = .ok (.if_icmp .ne 12, 3) := by decide +kernel
theorem d_M_module_62 : decode b_M_module 62 = .ok (.aload_n 0, 1) := by decide +kernel
theorem d_M_module_63 : decode b_M_module 63 = .ok (.getfield 28, 3) := by decide +kernel
theorem d_M_module_66 : decode b_M_module 66 = .ok (.iload_n 1, 1) := by decide +kernel
theorem d_M_module_67 : decode b_M_module 67 = .ok (.iaload, 1) := by decide +kernel
theorem d_M_module_68 : decode b_M_module 68 = .ok (.goto 37, 3) := by decide +kernel
theorem d_M_module_71 : decode b_M_module 71 = .ok (.iload_n 2, 1) := by decide +kernel
theorem d_M_module_72 : decode b_M_module 72 = .ok (.iconst 3, 1) := by decide +kernel
theorem d_M_module_73 : decode b_M_module 73 = .ok (.if_icmp .ne 12, 3) := by decide +kernel
theorem d_M_module_76 : decode b_M_module 76 = .ok (.aload_n 0, 1) := by decide +kernel
theorem d_M_module_77 : decode b_M_module 77 = .ok (.getfield 19, 3) := by decide +kernel
theorem d_M_module_80 : decode b_M_module 80 = .ok (.iload_n 1, 1) := by decide +kernel
theorem d_M_module_81 : decode b_M_module 81 = .ok (.iaload, 1) := by decide +kernel
theorem d_M_module_82 : decode b_M_module 82 = .ok (.goto 23, 3) := by decide +kernel
theorem d_M_module_85 : decode b_M_module 85 = .ok (.iload_n 2, 1) := by decide +kernel
theorem d_M_module_86 : decode b_M_module 86 = .ok (.iconst 4, 1) := by decide +kernel
theorem d_M_module_87 : decode b_M_module 87 = .ok (.if_icmp .ne 12, 3) := by decide +kernel
theorem d_M_module_90 : decode b_M_module 90 = .ok (.aload_n 0, 1) := by decide +kernel
theorem d_M_module_91 : decode b_M_module 91 = .ok (.getfield 38, 3) := by decide +kernel
theorem d_M_module_94 : decode b_M_module 94 = .ok (.iload_n 1, 1) := by decide +kernel
theorem d_M_module_95 : decode b_M_module 95 = .ok (.iaload, 1) := by decide +kernel
theorem d_M_module_96 : decode b_M_module 96 = .ok (.goto 9, 3) := by decide +kernel
theorem d_M_module_99 : decode b_M_module 99 = .ok (.aload_n 0, 1) := by decide +kernel
theorem d_M_module_100 : decode b_M_module 100 = .ok (.getfield 41, 3) := by decide +kernel
theorem d_M_module_103 : decode b_M_module 103 = .ok (.iload_n 1, 1) := by decide +kernel
theorem d_M_module_104 : decode b_M_module 104 = .ok (.iaload, 1) := by decide +kernel
theorem d_M_module_105 : decode b_M_module 105 = .ok (.ireturn, 1) := by decide +kernel
theorem d_M_register_0 : decode b_M_register 0 = .ok (.aload_n 0, 1) := by decide +kernel
theorem d_M_register_1 : decode b_M_register 1 = .ok (.iconst 0, 1) := by decide +kernel
theorem d_M_register_2 : decode b_M_register 2 = .ok (.putfield 77, 3) := by decide +kernel
theorem d_M_register_5 : decode b_M_register 5 = .ok (.aload_n 0, 1) := by decide +kernel
theorem d_M_register_6 : decode b_M_register 6 = .ok (.getfield 89, 3) := by decide +kernel
theorem d_M_register_9 : decode b_M_register 9 = .ok (.ifCond .eq 20, 3) := by decide +kernel
theorem d_M_register_12 : decode b_M_register 12 = .ok (.iload_n 1, 1) := by decide +kernel
theorem d_M_register_13 : decode b_M_register 13 = .ok (.invokestatic 209, 3) := by decide +kernel
theorem d_M_register_16 : decode b_M_register 16 = .ok (.ifCond .eq 13, 3) := by decide +kernel
theorem d_M_register_19 : decode b_M_register 19 = .ok (.iload_n 2, 1) := by decide +kernel
theorem d_M_register_20 : decode b_M_register 20 = .ok (.ifCond .lt 9, 3) := by decide +kernel
theorem d_M_register_23 : decode b_M_register 23 = .ok (.iload_n 2, 1) := by decide +kernel
theorem d_M_register_24 : decode b_M_register 24 = .ok (.bipush 7, 2) := by decide +kernel
theorem d_M_register_26 : decode b_M_register 26 = .ok (.if_icmp .le 7, 3) := by decide +kernel
theorem d_M_register_29 : decode b_M_register 29 = .ok (.iconst (-1), 1) := by decide +kernel
theorem d_M_register_30 : decode b_M_register 30 = .ok (.goto 14, 3) := by decide +kernel
theorem d_M_register_33 : decode b_M_register 33 = .ok (.aload_n 0, 1) := by decide +kernel
theorem d_M_register_34 : decode b_M_register 34 = .ok (.getfield 13, 3) := by decide +kernel
theorem d_M_register_37 : decode b_M_register 37 = .ok (.bipush 8, 2) := by decide +kernel
theorem d_M_register_39 : decode b_M_register 39 = .ok (.iload_n 1, 1) := by decide +kernel
theorem d_M_register_40 : decode b_M_register 40 = .ok (.imul, 1) := by decide +kernel
theorem d_M_register_41 : decode b_M_register 41 = .ok (.iload_n 2, 1) := by decide +kernel
theorem d_M_register_42 : decode b_M_register 42 = .ok (.iadd, 1) := by decide +kernel
theorem d_M_register_43 : decode b_M_register 43 = .ok (.iaload, 1) := by decide +kernel
theorem d_M_register_44 : decode b_M_register 44 = .ok (.ireturn, 1) := by decide +kernel
theorem d_M_code_0 : decode b_M_code 0 = .ok (.aload_n 0, 1) := by decide +kernel
theorem d_M_code_1 : decode b_M_code 1 = .ok (.iconst 0, 1) := by decide +kernel
theorem d_M_code_2 : decode b_M_code 2 = .ok (.putfield 77, 3) := by decide +kernel
theorem d_M_code_5 : decode b_M_code 5 = .ok (.aload_n 0, 1) := by decide +kernel
theorem d_M_code_6 : decode b_M_code 6 = .ok (.getfield 89, 3) := by decide +kernel
theorem d_M_code_9 : decode b_M_code 9 = .ok (.ifCond .eq 20, 3) := by decide +kernel
theorem d_M_code_12 : decode b_M_code 12 = .ok (.iload_n 1, 1) := by decide +kernel
theorem d_M_code_13 : decode b_M_code 13 = .ok (.invokestatic 209, 3) := by decide +kernel
theorem d_M_code_16 : decode b_M_code 16 = .ok (.ifCond .eq 13, 3) := by decide +kernel
theorem d_M_code_19 : decode b_M_code 19 = .ok (.iload_n 2, 1) := by decide +kernel
theorem d_M_code_20 : decode b_M_code 20 = .ok (.ifCond .lt 9, 3) := by decide +kernel
theorem d_M_code_23 : decode b_M_code 23 = .ok (.iload_n 2, 1) := by decide +kernel
theorem d_M_code_24 : decode b_M_code 24 = .ok (.bipush 32, 2) := by decide +kernel
theorem d_M_code_26 : decode b_M_code 26 = .ok (.if_icmp .lt 7, 3) := by decide +kernel
theorem d_M_code_29 : decode b_M_code 29 = .ok (.iconst (-1), 1) := by decide +kernel
theorem d_M_code_30 : decode b_M_code 30 = .ok (.goto 14, 3) := by decide +kernel
theorem d_M_code_33 : decode b_M_code 33 = .ok (.aload_n 0, 1) := by decide +kernel
theorem d_M_code_34 : decode b_M_code 34 = .ok (.getfield 16, 3) := by decide +kernel
theorem d_M_code_37 : decode b_M_code 37 = .ok (.bipush 32, 2) := by decide +kernel
theorem d_M_code_39 : decode b_M_code 39 = .ok (.iload_n 1, 1) := by decide +kernel
theorem d_M_code_40 : decode b_M_code 40 = .ok (.imul, 1) := by decide +kernel
theorem d_M_code_41 : decode b_M_code 41 = .ok (.iload_n 2, 1) := by decide +kernel
theorem d_M_code_42 : decode b_M_code 42 = .ok (.iadd, 1) := by decide +kernel
theorem d_M_code_43 : decode b_M_code 43 = .ok (.iaload, 1) := by decide +kernel
theorem d_M_code_44 : decode b_M_code 44 = .ok (.ireturn, 1) := by decide +kernel
theorem d_M_state_0 : decode b_M_state 0 = .ok (.aload_n 0, 1) := by decide +kernel
theorem d_M_state_1 : decode b_M_state 1 = .ok (.iconst 0, 1) := by decide +kernel
theorem d_M_state_2 : decode b_M_state 2 = .ok (.putfield 77, 3) := by decide +kernel
theorem d_M_state_5 : decode b_M_state 5 = .ok (.iload_n 1, 1) := by decide +kernel
theorem d_M_state_6 : decode b_M_state 6 = .ok (.tableswitch 112 0 6 #[42, 69, 74, 79, 84, 89, 99], 42) := by decide +kernel
theorem d_M_state_48 : decode b_M_state 48 = .ok (.aload_n 0, 1) := by decide +kernel
theorem d_M_state_49 : decode b_M_state 49 = .ok (.getfield 89, 3) := by decide +kernel
theorem d_M_state_52 : decode b_M_state 52 = .ok (.ifCond .ne 7, 3) := by decide +kernel
theorem d_M_state_55 : decode b_M_state 55 = .ok (.iconst (-1), 1) := by decide +kernel
theorem d_M_state_56 : decode b_M_state 56 = .ok (.goto 18, 3) := by decide +kernel
theorem d_M_state_59 : decode b_M_state 59 = .ok (.aload_n 0, 1) := by decide +kernel
theorem d_M_state_60 : decode b_M_state 60 = .ok (.getfield 122, 3) := by decide +kernel
theorem d_M_state_63 : decode b_M_state 63 = .ok (.ifCond .eq 7, 3) := by decide +kernel
theorem d_M_state_66 : decode b_M_state 66 = .ok (.iconst 0, 1) := by decide +kernel
theorem d_M_state_67 : decode b_M_state 67 = .ok (.goto 7, 3) := by decide +kernel
theorem d_M_state_70 : decode b_M_state 70 = .ok (.aload_n 0, 1) := by decide +kernel
theorem d_M_state_71 : decode b_M_state 71 = .ok (.invokevirtual 175, 3) := by decide +kernel
theorem d_M_state_74 : decode b_M_state 74 = .ok (.ireturn, 1) := by decide +kernel
theorem d_M_state_75 : decode b_M_state 75 = .ok (.aload_n 0, 1) := by decide +kernel
theorem d_M_state_76 : decode b_M_state 76 = .ok (.getfield 128, 3) := by decide +kernel
theorem d_M_state_79 : decode b_M_state 79 = .ok (.ireturn, 1) := by decide +kernel
theorem d_M_state_80 : decode b_M_state 80 = .ok (.aload_n 0, 1) := by decide +kernel
theorem d_M_state_81 : decode b_M_state 81 = .ok (.getfield 131, 3) := by decide +kernel
theorem d_M_state_84 : decode b_M_state 84 = .ok (.ireturn, 1) := by decide +kernel
theorem d_M_state_85 : decode b_M_state 85 = .ok (.aload_n 0, 1) := by decide +kernel
theorem d_M_state_86 : decode b_M_state 86 = .ok (.getfield 140, 3) := by decide +kernel
theorem d_M_state_89 : decode b_M_state 89 = .ok (.ireturn, 1) := by decide +kernel
theorem d_M_state_90 : decode b_M_state 90 = .ok (.aload_n 0, 1) := by decide +kernel
theorem d_M_state_91 : decode b_M_state 91 = .ok (.getfield 149, 3) := by decide +kernel
theorem d_M_state_94 : decode b_M_state 94 = .ok (.ireturn, 1) := by decide +kernel
theorem d_M_state_95 : decode b_M_state 95 = .ok (.aload_n 0, 1) := by decide +kernel
theorem d_M_state_96 : decode b_M_state 96 = .ok (.getfield 134, 3) := by decide +kernel
theorem d_M_state_99 : decode b_M_state 99 = .ok (.aload_n 0, 1) := by decide +kernel
theorem d_M_state_100 : decode b_M_state 100 = .ok (.getfield 137, 3) := by decide +kernel
theorem d_M_state_103 : decode b_M_state 103 = .ok (.isub, 1) := by decide +kernel
theorem d_M_state_104 : decode b_M_state 104 = .ok (.ireturn, 1) := by decide +kernel
theorem d_M_state_105 : decode b_M_state 105 = .ok (.aload_n 0, 1) := by decide +kernel
theorem d_M_state_106 : decode b_M_state 106 = .ok (.getfield 125, 3) := by decide +kernel
theorem d_M_state_109 : decode b_M_state 109 = .ok (.ifCond .eq 7, 3) := by decide +kernel
theorem d_M_state_112 : decode b_M_state 112 = .ok (.iconst 1, 1) := by decide +kernel
theorem d_M_state_113 : decode b_M_state 113 = .ok (.goto 4, 3) := by decide +kernel
theorem d_M_state_116 : decode b_M_state 116 = .ok (.iconst 0, 1) := by decide +kernel
theorem d_M_state_117 : decode b_M_state 117 = .ok (.ireturn, 1) := by decide +kernel
theorem d_M_state_118 : decode b_M_state 118 = .ok (.iconst (-1), 1) := by decide +kernel
theorem d_M_state_119 : decode b_M_state 119 = .ok (.ireturn, 1) := by decide +kernel
theorem d_K_ofWord_0 : decode b_K_ofWord 0 = .ok (.iload_n 0, 1) := by decide +kernel
theorem d_K_ofWord_1 : decode b_K_ofWord 1 = .ok (.iconst 1, 1) := by decide +kernel
theorem d_K_ofWord_2 : decode b_K_ofWord 2 = .ok (.iand, 1) := by decide +kernel
theorem d_K_ofWord_3 : decode b_K_ofWord 3 = .ok (.iconst 3, 1) := by decide +kernel
theorem d_K_ofWord_4 : decode b_K_ofWord 4 = .ok (.ishl, 1) := by decide +kernel
theorem d_K_ofWord_5 : decode b_K_ofWord 5 = .ok (.iload_n 0, 1) := by decide +kernel
theorem d_K_ofWord_6 : decode b_K_ofWord 6 = .ok (.bipush 14, 2) := by decide +kernel
theorem d_K_ofWord_8 : decode b_K_ofWord 8 = .ok (.iand, 1) := by decide +kernel
theorem d_K_ofWord_9 : decode b_K_ofWord 9 = .ok (.iconst 4, 1) := by decide +kernel
theorem d_K_ofWord_10 : decode b_K_ofWord 10 = .ok (.ishl, 1) := by decide +kernel
theorem d_K_ofWord_11 : decode b_K_ofWord 11 = .ok (.ior, 1) := by decide +kernel
theorem d_K_ofWord_12 : decode b_K_ofWord 12 = .ok (.iload_n 0, 1) := by decide +kernel
theorem d_K_ofWord_13 : decode b_K_ofWord 13 = .ok (.sipush 2032, 3) := by decide +kernel
theorem d_K_ofWord_16 : decode b_K_ofWord 16 = .ok (.iand, 1) := by decide +kernel
theorem d_K_ofWord_17 : decode b_K_ofWord 17 = .ok (.iconst 5, 1) := by decide +kernel
theorem d_K_ofWord_18 : decode b_K_ofWord 18 = .ok (.ishl, 1) := by decide +kernel
theorem d_K_ofWord_19 : decode b_K_ofWord 19 = .ok (.ior, 1) := by decide +kernel
theorem d_K_ofWord_20 : decode b_K_ofWord 20 = .ok (.iload_n 0, 1) := by decide +kernel
theorem d_K_ofWord_21 : decode b_K_ofWord 21 = .ok (.ldc 7, 2) := by decide +kernel
theorem d_K_ofWord_23 : decode b_K_ofWord 23 = .ok (.iand, 1) := by decide +kernel
theorem d_K_ofWord_24 : decode b_K_ofWord 24 = .ok (.bipush 6, 2) := by decide +kernel
theorem d_K_ofWord_26 : decode b_K_ofWord 26 = .ok (.ishl, 1) := by decide +kernel
theorem d_K_ofWord_27 : decode b_K_ofWord 27 = .ok (.ior, 1) := by decide +kernel
theorem d_K_ofWord_28 : decode b_K_ofWord 28 = .ok (.istore_n 1, 1) := by decide +kernel
theorem d_K_ofWord_29 : decode b_K_ofWord 29 = .ok (.iload_n 1, 1) := by decide +kernel
theorem d_K_ofWord_30 : decode b_K_ofWord 30 = .ok (.invokestatic 8, 3) := by decide +kernel
theorem d_K_ofWord_33 : decode b_K_ofWord 33 = .ok (.istore_n 2, 1) := by decide +kernel
theorem d_K_ofWord_34 : decode b_K_ofWord 34 = .ok (.iconst 0, 1) := by decide +kernel
theorem d_K_ofWord_35 : decode b_K_ofWord 35 = .ok (.istore_n 3, 1) := by decide +kernel
theorem d_K_ofWord_36 : decode b_K_ofWord 36 = .ok (.iload_n 3, 1) := by decide +kernel
theorem d_K_ofWord_37 : decode b_K_ofWord 37 = .ok (.getstatic 14, 3) := by decide +kernel
theorem d_K_ofWord_40 : decode b_K_ofWord 40 = .ok (.arraylength, 1) := by decide +kernel
theorem d_K_ofWord_41 : decode b_K_ofWord 41 = .ok (.if_icmp .ge 25, 3) := by decide +kernel
theorem d_K_ofWord_44 : decode b_K_ofWord 44 = .ok (.iload_n 2, 1) := by decide +kernel
theorem d_K_ofWord_45 : decode b_K_ofWord 45 = .ok (.iload_n 3, 1) := by decide +kernel
theorem d_K_ofWord_46 : decode b_K_ofWord 46 = .ok (.ishr, 1) := by decide +kernel
theorem d_K_ofWord_47 : decode b_K_ofWord 47 = .ok (.iconst 1, 1) := by decide +kernel
theorem d_K_ofWord_48 : decode b_K_ofWord 48 = .ok (.iand, 1) := by decide +kernel
theorem d_K_ofWord_49 : decode b_K_ofWord 49 = .ok (.ifCond .eq 11, 3) := by decide +kernel
theorem d_K_ofWord_52 : decode b_K_ofWord 52 = .ok (.iload_n 1, 1) := by decide +kernel
theorem d_K_ofWord_53 : decode b_K_ofWord 53 = .ok (.iconst 1, 1) := by decide +kernel
theorem d_K_ofWord_54 : decode b_K_ofWord 54 = .ok (.iconst 1, 1) := by decide +kernel
theorem d_K_ofWord_55 : decode b_K_ofWord 55 = .ok (.iload_n 3, 1) := by decide +kernel
theorem d_K_ofWord_56 : decode b_K_ofWord 56 = .ok (.ishl, 1) := by decide +kernel
theorem d_K_ofWord_57 : decode b_K_ofWord 57 = .ok (.ishl, 1) := by decide +kernel
theorem d_K_ofWord_58 : decode b_K_ofWord 58 = .ok (.ior, 1) := by decide +kernel
theorem d_K_ofWord_59 : decode b_K_ofWord 59 = .ok (.istore_n 1, 1) := by decide +kernel
theorem d_K_ofWord_60 : decode b_K_ofWord 60 = .ok (.iinc 3 1, 3) := by decide +kernel
theorem d_K_ofWord_63 : decode b_K_ofWord 63 = .ok (.goto (-27), 3) := by decide +kernel
theorem d_K_ofWord_66 : decode b_K_ofWord 66 = .ok (.iload_n 1, 1) := by decide +kernel
theorem d_K_ofWord_67 : decode b_K_ofWord 67 = .ok (.iload_n 1, 1) := by decide +kernel
theorem d_K_ofWord_68 : decode b_K_ofWord 68 = .ok (.invokestatic 18, 3) := by decide +kernel
theorem d_K_ofWord_71 : decode b_K_ofWord 71 = .ok (.iconst 1, 1) := by decide +kernel
theorem d_K_ofWord_72 : decode b_K_ofWord 72 = .ok (.iand, 1) := by decide +kernel
theorem d_K_ofWord_73 : decode b_K_ofWord 73 = .ok (.ior, 1) := by decide +kernel
theorem d_K_ofWord_74 : decode b_K_ofWord 74 = .ok (.ireturn, 1) := by decide +kernel
theorem d_K_wordOf_0 : decode b_K_wordOf 0 = .ok (.iload_n 0, 1) := by decide +kernel
theorem d_K_wordOf_1 : decode b_K_wordOf 1 = .ok (.iconst 3, 1) := by decide +kernel
theorem d_K_wordOf_2 : decode b_K_wordOf 2 = .ok (.ishr, 1) := by decide +kernel
theorem d_K_wordOf_3 : decode b_K_wordOf 3 = .ok (.iconst 1, 1) := by decide +kernel
theorem d_K_wordOf_4 : decode b_K_wordOf 4 = .ok (.iand, 1) := by decide +kernel
theorem d_K_wordOf_5 : decode b_K_wordOf 5 = .ok (.iload_n 0, 1) := by decide +kernel
theorem d_K_wordOf_6 : decode b_K_wordOf 6 = .ok (.iconst 4, 1) := by decide +kernel
theorem d_K_wordOf_7 : decode b_K_wordOf 7 = .ok (.ishr, 1) := by decide +kernel
theorem d_K_wordOf_8 : decode b_K_wordOf 8 = .ok (.bipush 14, 2) := by decide +kernel
theorem d_K_wordOf_10 : decode b_K_wordOf 10 = .ok (.iand, 1) := by decide +kernel
theorem d_K_wordOf_11 : decode b_K_wordOf 11 = .ok (.ior, 1) := by decide +kernel
theorem d_K_wordOf_12 : decode b_K_wordOf 12 = .ok (.iload_n 0, 1) := by decide +kernel
theorem d_K_wordOf_13 : decode b_K_wordOf 13 = .ok (.iconst 5, 1) := by decide +kernel
theorem d_K_wordOf_14 : decode b_K_wordOf 14 = .ok (.ishr, 1) := by decide +kernel
theorem d_K_wordOf_15 : decode b_K_wordOf 15 = .ok (.sipush 2032, 3) := by decide +kernel
theorem d_K_wordOf_18 : decode b_K_wordOf 18 = .ok (.iand, 1) := by decide +kernel
theorem d_K_wordOf_19 : decode b_K_wordOf 19 = .ok (.ior, 1) := by decide +kernel
theorem d_K_wordOf_20 : decode b_K_wordOf 20 = .ok (.iload_n 0, 1) := by decide +kernel
theorem d_K_wordOf_21 : decode b_K_wordOf 21 = .ok (.bipush 6, 2) := by decide +kernel
theorem d_K_wordOf_23 : decode b_K_wordOf 23 = .ok (.ishr, 1) := by decide +kernel
theorem d_K_wordOf_24 : decode b_K_wordOf 24 = .ok (.ldc 7, 2) := by decide +kernel
theorem d_K_wordOf_26 : decode b_K_wordOf 26 = .ok (.iand, 1) := by decide +kernel
theorem d_K_wordOf_27 : decode b_K_wordOf 27 = .ok (.ior, 1) := by decide +kernel
theorem d_K_wordOf_28 : decode b_K_wordOf 28 = .ok (.ireturn, 1) := by decide +kernel
theorem d_K_exclusiveOr_0 : decode b_K_exclusiveOr 0 = .ok (.iconst 0, 1) := by decide +kernel
theorem d_K_exclusiveOr_1 : decode b_K_exclusiveOr 1 = .ok (.istore_n 1, 1) := by decide +kernel
theorem d_K_exclusiveOr_2 : decode b_K_exclusiveOr 2 = .ok (.iconst 0, 1) := by decide +kernel
theorem d_K_exclusiveOr_3 : decode b_K_exclusiveOr 3 = .ok (.istore_n 2, 1) := by decide +kernel
theorem d_K_exclusiveOr_4 : decode b_K_exclusiveOr 4 = .ok (.iload_n 2, 1) := by decide +kernel
theorem d_K_exclusiveOr_5 : decode b_K_exclusiveOr 5 = .ok (.getstatic 14, 3) := by decide +kernel
theorem d_K_exclusiveOr_8 : decode b_K_exclusiveOr 8 = .ok (.arraylength, 1) := by decide +kernel
theorem d_K_exclusiveOr_9 : decode b_K_exclusiveOr 9 = .ok (.if_icmp .ge 26, 3) := by decide +kernel
theorem d_K_exclusiveOr_12 : decode b_K_exclusiveOr 12 = .ok (.iload_n 1, 1) := by decide +kernel
theorem d_K_exclusiveOr_13 : decode b_K_exclusiveOr 13 = .ok (.iload_n 0, 1) := by decide +kernel
theorem d_K_exclusiveOr_14 : decode b_K_exclusiveOr 14 = .ok (.getstatic 14, 3) := by decide +kernel
theorem d_K_exclusiveOr_17 : decode b_K_exclusiveOr 17 = .ok (.iload_n 2, 1) := by decide +kernel
theorem d_K_exclusiveOr_18 : decode b_K_exclusiveOr 18 = .ok (.iaload, 1) := by decide +kernel
theorem d_K_exclusiveOr_19 : decode b_K_exclusiveOr 19 = .ok (.iand, 1) := by decide +kernel
theorem d_K_exclusiveOr_20 : decode b_K_exclusiveOr 20 = .ok (.invokestatic 18, 3) := by decide +kernel
theorem d_K_exclusiveOr_23 : decode b_K_exclusiveOr 23 = .ok (.iconst 1, 1) := by decide +kernel
theorem d_K_exclusiveOr_24 : decode b_K_exclusiveOr 24 = .ok (.iand, 1) := by decide +kernel
theorem d_K_exclusiveOr_25 : decode b_K_exclusiveOr 25 = .ok (.iload_n 2, 1) := by decide +kernel
theorem d_K_exclusiveOr_26 : decode b_K_exclusiveOr 26 = .ok (.ishl, 1) := by decide +kernel
theorem d_K_exclusiveOr_27 : decode b_K_exclusiveOr 27 = .ok (.ior, 1) := by decide +kernel
theorem d_K_exclusiveOr_28 : decode b_K_exclusiveOr 28 = .ok (.istore_n 1, 1) := by decide +kernel
theorem d_K_exclusiveOr_29 : decode b_K_exclusiveOr 29 = .ok (.iinc 2 1, 3) := by decide +kernel
theorem d_K_exclusiveOr_32 : decode b_K_exclusiveOr 32 = .ok (.goto (-28), 3) := by decide +kernel
theorem d_K_exclusiveOr_35 : decode b_K_exclusiveOr 35 = .ok (.iload_n 1, 1) := by decide +kernel
theorem d_K_exclusiveOr_36 : decode b_K_exclusiveOr 36 = .ok (.ireturn, 1) := by decide +kernel
theorem d_E_init_0 : decode b_E_init 0 = .ok (.aload_n 0, 1) := by decide +kernel
theorem d_E_init_1 : decode b_E_init 1 = .ok (.invokespecial 3, 3) := by decide +kernel
theorem d_E_init_4 : decode b_E_init 4 = .ok (.aload_n 0, 1) := by decide +kernel
theorem d_E_init_5 : decode b_E_init 5 = .ok (.new 9, 3) := by decide +kernel
theorem d_E_init_8 : decode b_E_init 8 = .ok (.dup, 1) := by decide +kernel
theorem d_E_init_9 : decode b_E_init 9 = .ok (.invokespecial 11, 3) := by decide +kernel
theorem d_E_init_12 : decode b_E_init 12 = .ok (.putfield 12, 3) := by decide +kernel
theorem d_E_init_15 : decode b_E_init 15 = .ok (.aload_n 0, 1) := by decide +kernel
theorem d_E_init_16 : decode b_E_init 16 = .ok (.bipush 32, 2) := by decide +kernel
theorem d_E_init_18 : decode b_E_init 18 = .ok (.newarray .int, 2) := by decide +kernel
theorem d_E_init_20 : decode b_E_init 20 = .ok (.putfield 18, 3) := by decide +kernel
theorem d_E_init_23 : decode b_E_init 23 = .ok (.return_, 1) := by decide +kernel
theorem d_E_makeBlank_0 : decode b_E_makeBlank 0 = .ok (.aload_n 0, 1) := by decide +kernel
theorem d_E_makeBlank_1 : decode b_E_makeBlank 1 = .ok (.invokevirtual 22, 3) := by decide +kernel
theorem d_E_makeBlank_4 : decode b_E_makeBlank 4 = .ok (.iconst 0, 1) := by decide +kernel
theorem d_E_makeBlank_5 : decode b_E_makeBlank 5 = .ok (.istore_n 1, 1) := by decide +kernel
theorem d_E_makeBlank_6 : decode b_E_makeBlank 6 = .ok (.iload_n 1, 1) := by decide +kernel
theorem d_E_makeBlank_7 : decode b_E_makeBlank 7 = .ok (.bipush 32, 2) := by decide +kernel
theorem d_E_makeBlank_9 : decode b_E_makeBlank 9 = .ok (.if_icmp .ge 16, 3) := by decide +kernel
theorem d_E_makeBlank_12 : decode b_E_makeBlank 12 = .ok (.aload_n 0, 1) := by decide +kernel
theorem d_E_makeBlank_13 : decode b_E_makeBlank 13 = .ok (.getfield 18, 3) := by decide +kernel
theorem d_E_makeBlank_16 : decode b_E_makeBlank 16 = .ok (.iload_n 1, 1) := by decide +kernel
theorem d_E_makeBlank_17 : decode b_E_makeBlank 17 = .ok (.iconst 0, 1) := by decide +kernel
theorem d_E_makeBlank_18 : decode b_E_makeBlank 18 = .ok (.iastore, 1) := by decide +kernel
theorem d_E_makeBlank_19 : decode b_E_makeBlank 19 = .ok (.iinc 1 1, 3) := by decide +kernel
theorem d_E_makeBlank_22 : decode b_E_makeBlank 22 = .ok (.goto (-16), 3) := by decide +kernel
theorem d_E_makeBlank_25 : decode b_E_makeBlank 25 = .ok (.aload_n 0, 1) := by decide +kernel
theorem d_E_makeBlank_26 : decode b_E_makeBlank 26 = .ok (.getfield 12, 3) := by decide +kernel
theorem d_E_makeBlank_29 : decode b_E_makeBlank 29 = .ok (.invokevirtual 25, 3) := by decide +kernel
theorem d_E_makeBlank_32 : decode b_E_makeBlank 32 = .ok (.aload_n 0, 1) := by decide +kernel
theorem d_E_makeBlank_33 : decode b_E_makeBlank 33 = .ok (.iconst 0, 1) := by decide +kernel
theorem d_E_makeBlank_34 : decode b_E_makeBlank 34 = .ok (.putfield 28, 3) := by decide +kernel
theorem d_E_makeBlank_37 : decode b_E_makeBlank 37 = .ok (.return_, 1) := by decide +kernel
theorem d_E_doInstruction_0 : decode b_E_doInstruction 0 = .ok (.aload_n 0, 1) := by decide +kernel
theorem d_E_doInstruction_1 : decode b_E_doInstruction 1 = .ok (.invokevirtual 32, 3) := by decide +kernel
theorem d_E_doInstruction_4 : decode b_E_doInstruction 4 = .ok (.aload_n 0, 1) := by decide +kernel
theorem d_E_doInstruction_5 : decode b_E_doInstruction 5 = .ok (.aload_n 1, 1) := by decide +kernel
theorem d_E_doInstruction_6 : decode b_E_doInstruction 6 = .ok (.invokevirtual 35, 3) := by decide +kernel
theorem d_E_doInstruction_9 : decode b_E_doInstruction 9 = .ok (.aload_n 0, 1) := by decide +kernel
theorem d_E_doInstruction_10 : decode b_E_doInstruction 10 = .ok (.getfield 39, 3) := by decide +kernel
theorem d_E_doInstruction_13 : decode b_E_doInstruction 13 = .ok (.iconst 1, 1) := by decide +kernel
theorem d_E_doInstruction_14 : decode b_E_doInstruction 14 = .ok (.if_icmp .ne 43, 3) := by decide +kernel
theorem d_E_doInstruction_17 : decode b_E_doInstruction 17 = .ok (.aload_n 0, 1) := by decide +kernel
theorem d_E_doInstruction_18 : decode b_E_doInstruction 18 = .ok (.aload_n 2, 1) := by decide +kernel
theorem d_E_doInstruction_19 : decode b_E_doInstruction 19 = .ok (.aload_n 0, 1) := by decide +kernel
theorem d_E_doInstruction_20 : decode b_E_doInstruction 20 = .ok (.getfield 28, 3) := by decide +kernel
theorem d_E_doInstruction_23 : decode b_E_doInstruction 23 = .ok (.invokevirtual 42, 3) := by decide +kernel
theorem d_E_doInstruction_26 : decode b_E_doInstruction 26 = .ok (.invokevirtual 48, 3) := by decide +kernel
theorem d_E_doInstruction_29 : decode b_E_doInstruction 29 = .ok (.aload_n 0, 1) := by decide +kernel
theorem d_E_doInstruction_30 : decode b_E_doInstruction 30 = .ok (.dup, 1) := by decide +kernel
theorem d_E_doInstruction_31 : decode b_E_doInstruction 31 = .ok (.getfield 28, 3) := by decide +kernel
theorem d_E_doInstruction_34 : decode b_E_doInstruction 34 = .ok (.aload_n 0, 1) := by decide +kernel
theorem d_E_doInstruction_35 : decode b_E_doInstruction 35 = .ok (.getfield 28, 3) := by decide +kernel
theorem d_E_doInstruction_38 : decode b_E_doInstruction 38 = .ok (.aload_n 2, 1) := by decide +kernel
theorem d_E_doInstruction_39 : decode b_E_doInstruction 39 = .ok (.getfield 52, 3) := by decide +kernel
theorem d_E_doInstruction_42 : decode b_E_doInstruction 42 = .ok (.if_icmp .ge 7, 3) := by decide +kernel
theorem d_E_doInstruction_45 : decode b_E_doInstruction 45 = .ok (.iconst 1, 1) := by decide +kernel
theorem d_E_doInstruction_46 : decode b_E_doInstruction 46 = .ok (.goto 4, 3) := by decide +kernel
theorem d_E_doInstruction_49 : decode b_E_doInstruction 49 = .ok (.iconst 0, 1) := by decide +kernel
theorem d_E_doInstruction_50 : decode b_E_doInstruction 50 = .ok (.iadd, 1) := by decide +kernel
theorem d_E_doInstruction_51 : decode b_E_doInstruction 51 = .ok (.putfield 28, 3) := by decide +kernel
theorem d_E_doInstruction_54 : decode b_E_doInstruction 54 = .ok (.goto 22, 3) := by decide +kernel
theorem d_E_doInstruction_57 : decode b_E_doInstruction 57 = .ok (.aload_n 0, 1) := by decide +kernel
theorem d_E_doInstruction_58 : decode b_E_doInstruction 58 = .ok (.getfield 39, 3) := by decide +kernel
theorem d_E_doInstruction_61 : decode b_E_doInstruction 61 = .ok (.iconst 2, 1) := by decide +kernel
theorem d_E_doInstruction_62 : decode b_E_doInstruction 62 = .ok (.if_icmp .ne 14, 3) := by decide +kernel
theorem d_E_doInstruction_65 : decode b_E_doInstruction 65 = .ok (.aload_n 0, 1) := by decide +kernel
theorem d_E_doInstruction_66 : decode b_E_doInstruction 66 = .ok (.getfield 12, 3) := by decide +kernel
theorem d_E_doInstruction_69 : decode b_E_doInstruction 69 = .ok (.aload_n 0, 1) := by decide +kernel
theorem d_E_doInstruction_70 : decode b_E_doInstruction 70 = .ok (.getfield 55, 3) := by decide +kernel
theorem d_E_doInstruction_73 : decode b_E_doInstruction 73 = .ok (.invokevirtual 58, 3) := by decide +kernel
theorem d_E_doInstruction_76 : decode b_E_doInstruction 76 = .ok (.return_, 1) := by decide +kernel
theorem d_E_readWord_0 : decode b_E_readWord 0 = .ok (.aload_n 0, 1) := by decide +kernel
theorem d_E_readWord_1 : decode b_E_readWord 1 = .ok (.getfield 18, 3) := by decide +kernel
theorem d_E_readWord_4 : decode b_E_readWord 4 = .ok (.iload_n 1, 1) := by decide +kernel
theorem d_E_readWord_5 : decode b_E_readWord 5 = .ok (.iaload, 1) := by decide +kernel
theorem d_E_readWord_6 : decode b_E_readWord 6 = .ok (.ireturn, 1) := by decide +kernel
theorem d_E_writeWord_0 : decode b_E_writeWord 0 = .ok (.aload_n 0, 1) := by decide +kernel
theorem d_E_writeWord_1 : decode b_E_writeWord 1 = .ok (.getfield 18, 3) := by decide +kernel
theorem d_E_writeWord_4 : decode b_E_writeWord 4 = .ok (.iload_n 1, 1) := by decide +kernel
theorem d_E_writeWord_5 : decode b_E_writeWord 5 = .ok (.iload_n 2, 1) := by decide +kernel
theorem d_E_writeWord_6 : decode b_E_writeWord 6 = .ok (.iastore, 1) := by decide +kernel
theorem d_E_writeWord_7 : decode b_E_writeWord 7 = .ok (.return_, 1) := by decide +kernel
theorem d_C_init_0 : decode b_C_init 0 = .ok (.aload_n 0, 1) := by decide +kernel
theorem d_C_init_1 : decode b_C_init 1 = .ok (.invokespecial 3, 3) := by decide +kernel
theorem d_C_init_4 : decode b_C_init 4 = .ok (.aload_n 0, 1) := by decide +kernel
theorem d_C_init_5 : decode b_C_init 5 = .ok (.bipush 8, 2) := by decide +kernel
theorem d_C_init_7 : decode b_C_init 7 = .ok (.newarray .int, 2) := by decide +kernel
theorem d_C_init_9 : decode b_C_init 9 = .ok (.putfield 9, 3) := by decide +kernel
theorem d_C_init_12 : decode b_C_init 12 = .ok (.return_, 1) := by decide +kernel
theorem d_C_clearProcessor_0 : decode b_C_clearProcessor 0 = .ok (.iconst 0, 1) := by decide +kernel
theorem d_C_clearProcessor_1 : decode b_C_clearProcessor 1 = .ok (.istore_n 1, 1) := by decide +kernel
theorem d_C_clearProcessor_2 : decode b_C_clearProcessor 2 = .ok (.iload_n 1, 1) := by decide +kernel
theorem d_C_clearProcessor_3 : decode b_C_clearProcessor 3 = .ok (.bipush 8, 2) := by decide +kernel
theorem d_C_clearProcessor_5 : decode b_C_clearProcessor 5 = .ok (.if_icmp .ge 16, 3) := by decide +kernel
theorem d_C_clearProcessor_8 : decode b_C_clearProcessor 8 = .ok (.aload_n 0, 1) := by decide +kernel
theorem d_C_clearProcessor_9 : decode b_C_clearProcessor 9 = .ok (.getfield 9, 3) := by decide +kernel
theorem d_C_clearProcessor_12 : decode b_C_clearProcessor 12 = .ok (.iload_n 1, 1) := by decide +kernel
theorem d_C_clearProcessor_13 : decode b_C_clearProcessor 13 = .ok (.iconst 0, 1) := by decide +kernel
theorem d_C_clearProcessor_14 : decode b_C_clearProcessor 14 = .ok (.iastore, 1) := by decide +kernel
theorem d_C_clearProcessor_15 : decode b_C_clearProcessor 15 = .ok (.iinc 1 1, 3) := by decide +kernel
theorem d_C_clearProcessor_18 : decode b_C_clearProcessor 18 = .ok (.goto (-16), 3) := by decide +kernel
theorem d_C_clearProcessor_21 : decode b_C_clearProcessor 21 = .ok (.aload_n 0, 1) := by decide +kernel
theorem d_C_clearProcessor_22 : decode b_C_clearProcessor 22 = .ok (.iconst 0, 1) := by decide +kernel
theorem d_C_clearProcessor_23 : decode b_C_clearProcessor 23 = .ok (.putfield 15, 3) := by decide +kernel
theorem d_C_clearProcessor_26 : decode b_C_clearProcessor 26 = .ok (.return_, 1) := by decide +kernel
theorem d_C_clearEffects_0 : decode b_C_clearEffects 0 = .ok (.aload_n 0, 1) := by decide +kernel
theorem d_C_clearEffects_1 : decode b_C_clearEffects 1 = .ok (.invokevirtual 19, 3) := by decide +kernel
theorem d_C_clearEffects_4 : decode b_C_clearEffects 4 = .ok (.aload_n 0, 1) := by decide +kernel
theorem d_C_clearEffects_5 : decode b_C_clearEffects 5 = .ok (.iconst (-1), 1) := by decide +kernel
theorem d_C_clearEffects_6 : decode b_C_clearEffects 6 = .ok (.putfield 22, 3) := by decide +kernel
theorem d_C_clearEffects_9 : decode b_C_clearEffects 9 = .ok (.aload_n 0, 1) := by decide +kernel
theorem d_C_clearEffects_10 : decode b_C_clearEffects 10 = .ok (.iconst (-1), 1) := by decide +kernel
theorem d_C_clearEffects_11 : decode b_C_clearEffects 11 = .ok (.putfield 25, 3) := by decide +kernel
theorem d_C_clearEffects_14 : decode b_C_clearEffects 14 = .ok (.return_, 1) := by decide +kernel
theorem d_C_wishNothing_0 : decode b_C_wishNothing 0 = .ok (.aload_n 0, 1) := by decide +kernel
theorem d_C_wishNothing_1 : decode b_C_wishNothing 1 = .ok (.iconst 0, 1) := by decide +kernel
theorem d_C_wishNothing_2 : decode b_C_wishNothing 2 = .ok (.putfield 28, 3) := by decide +kernel
theorem d_C_wishNothing_5 : decode b_C_wishNothing 5 = .ok (.aload_n 0, 1) := by decide +kernel
theorem d_C_wishNothing_6 : decode b_C_wishNothing 6 = .ok (.iconst 0, 1) := by decide +kernel
theorem d_C_wishNothing_7 : decode b_C_wishNothing 7 = .ok (.putfield 31, 3) := by decide +kernel
theorem d_C_wishNothing_10 : decode b_C_wishNothing 10 = .ok (.return_, 1) := by decide +kernel
theorem d_C_passOver_0 : decode b_C_passOver 0 = .ok (.aload_n 0, 1) := by decide +kernel
theorem d_C_passOver_1 : decode b_C_passOver 1 = .ok (.aload_n 1, 1) := by decide +kernel
theorem d_C_passOver_2 : decode b_C_passOver 2 = .ok (.aload_n 0, 1) := by decide +kernel
theorem d_C_passOver_3 : decode b_C_passOver 3 = .ok (.getfield 15, 3) := by decide +kernel
theorem d_C_passOver_6 : decode b_C_passOver 6 = .ok (.iconst 1, 1) := by decide +kernel
theorem d_C_passOver_7 : decode b_C_passOver 7 = .ok (.iadd, 1) := by decide +kernel
theorem d_C_passOver_8 : decode b_C_passOver 8 = .ok (.invokevirtual 34, 3) := by decide +kernel
theorem d_C_passOver_11 : decode b_C_passOver 11 = .ok (.putfield 15, 3) := by decide +kernel
theorem d_C_passOver_14 : decode b_C_passOver 14 = .ok (.return_, 1) := by decide +kernel
theorem d_C_execute_0 : decode b_C_execute 0 = .ok (.aload_n 1, 1) := by decide +kernel
theorem d_C_execute_1 : decode b_C_execute 1 = .ok (.aload_n 0, 1) := by decide +kernel
theorem d_C_execute_2 : decode b_C_execute 2 = .ok (.getfield 15, 3) := by decide +kernel
theorem d_C_execute_5 : decode b_C_execute 5 = .ok (.invokevirtual 40, 3) := by decide +kernel
theorem d_C_execute_8 : decode b_C_execute 8 = .ok (.istore_n 2, 1) := by decide +kernel
theorem d_C_execute_9 : decode b_C_execute 9 = .ok (.aload_n 0, 1) := by decide +kernel
theorem d_C_execute_10 : decode b_C_execute 10 = .ok (.aload_n 1, 1) := by decide +kernel
theorem d_C_execute_11 : decode b_C_execute 11 = .ok (.invokevirtual 43, 3) := by decide +kernel
theorem d_C_execute_14 : decode b_C_execute 14 = .ok (.iload_n 2, 1) := by decide +kernel
theorem d_C_execute_15 : decode b_C_execute 15 = .ok (.invokestatic 47, 3) := by decide +kernel
theorem d_C_execute_18 : decode b_C_execute 18 = .ok (.istore_n 3, 1) := by decide +kernel
theorem d_C_execute_19 : decode b_C_execute 19 = .ok (.iload_n 2, 1) := by decide +kernel
theorem d_C_execute_20 : decode b_C_execute 20 = .ok (.invokestatic 50, 3) := by decide +kernel
theorem d_C_execute_23 : decode b_C_execute 23 = .ok (.istore 4, 2) := by decide +kernel
theorem d_C_execute_25 : decode b_C_execute 25 = .ok (.iload_n 2, 1) := by decide +kernel
theorem d_C_execute_26 : decode b_C_execute 26 = .ok (.invokestatic 53, 3) := by decide +kernel
theorem d_C_execute_29 : decode b_C_execute 29 = .ok (.istore 5, 2) := by decide +kernel
theorem d_C_execute_31 : decode b_C_execute 31 = .ok (.iload_n 2, 1) := by decide +kernel
theorem d_C_execute_32 : decode b_C_execute 32 = .ok (.invokestatic 56, 3) := by decide +kernel
theorem d_C_execute_35 : decode b_C_execute 35 = .ok (.tableswitch 208 0 10 #[57, 208, 208, 208, 208, 75, 101, 143, 168, 177, 190], 57) := by decide +kernel
theorem d_C_execute_92 : decode b_C_execute 92 = .ok (.aload_n 0, 1) := by decide +kernel
theorem d_C_execute_93 : decode b_C_execute 93 = .ok (.getfield 9, 3) := by decide +kernel
theorem d_C_execute_96 : decode b_C_execute 96 = .ok (.iload_n 3, 1) := by decide +kernel
theorem d_C_execute_97 : decode b_C_execute 97 = .ok (.iload 4, 2) := by decide +kernel
theorem d_C_execute_99 : decode b_C_execute 99 = .ok (.sipush 256, 3) := by decide +kernel
theorem d_C_execute_102 : decode b_C_execute 102 = .ok (.imul, 1) := by decide +kernel
theorem d_C_execute_103 : decode b_C_execute 103 = .ok (.iload 5, 2) := by decide +kernel
theorem d_C_execute_105 : decode b_C_execute 105 = .ok (.iadd, 1) := by decide +kernel
theorem d_C_execute_106 : decode b_C_execute 106 = .ok (.iastore, 1) := by decide +kernel
theorem d_C_execute_107 : decode b_C_execute 107 = .ok (.goto 163, 3) := by decide +kernel
theorem d_C_execute_110 : decode b_C_execute 110 = .ok (.aload_n 0, 1) := by decide +kernel
theorem d_C_execute_111 : decode b_C_execute 111 = .ok (.getfield 9, 3) := by decide +kernel
theorem d_C_execute_114 : decode b_C_execute 114 = .ok (.iload_n 3, 1) := by decide +kernel
theorem d_C_execute_115 : decode b_C_execute 115 = .ok (.aload_n 0, 1) := by decide +kernel
theorem d_C_execute_116 : decode b_C_execute 116 = .ok (.aload_n 0, 1) := by decide +kernel
theorem d_C_execute_117 : decode b_C_execute 117 = .ok (.getfield 9, 3) := by decide +kernel
theorem d_C_execute_120 : decode b_C_execute 120 = .ok (.iload 4, 2) := by decide +kernel
theorem d_C_execute_122 : decode b_C_execute 122 = .ok (.iaload, 1) := by decide +kernel
theorem d_C_execute_123 : decode b_C_execute 123 = .ok (.iload 5, 2) := by decide +kernel
theorem d_C_execute_125 : decode b_C_execute 125 = .ok (.iadd, 1) := by decide +kernel
theorem d_C_execute_126 : decode b_C_execute 126 = .ok (.bipush 32, 2) := by decide +kernel
theorem d_C_execute_128 : decode b_C_execute 128 = .ok (.irem, 1) := by decide +kernel
theorem d_C_execute_129 : decode b_C_execute 129 = .ok (.invokevirtual 59, 3) := by decide +kernel
theorem d_C_execute_132 : decode b_C_execute 132 = .ok (.iastore, 1) := by decide +kernel
theorem d_C_execute_133 : decode b_C_execute 133 = .ok (.goto 137, 3) := by decide +kernel
theorem d_C_execute_136 : decode b_C_execute 136 = .ok (.aload_n 0, 1) := by decide +kernel
theorem d_C_execute_137 : decode b_C_execute 137 = .ok (.aload_n 0, 1) := by decide +kernel
theorem d_C_execute_138 : decode b_C_execute 138 = .ok (.getfield 9, 3) := by decide +kernel
theorem d_C_execute_141 : decode b_C_execute 141 = .ok (.iload 4, 2) := by decide +kernel
theorem d_C_execute_143 : decode b_C_execute 143 = .ok (.iaload, 1) := by decide +kernel
theorem d_C_execute_144 : decode b_C_execute 144 = .ok (.iload 5, 2) := by decide +kernel
theorem d_C_execute_146 : decode b_C_execute 146 = .ok (.iadd, 1) := by decide +kernel
theorem d_C_execute_147 : decode b_C_execute 147 = .ok (.bipush 32, 2) := by decide +kernel
theorem d_C_execute_149 : decode b_C_execute 149 = .ok (.irem, 1) := by decide +kernel
theorem d_C_execute_150 : decode b_C_execute 150 = .ok (.putfield 25, 3) := by decide +kernel
theorem d_C_execute_153 : decode b_C_execute 153 = .ok (.aload_n 0, 1) := by decide +kernel
theorem d_C_execute_154 : decode b_C_execute 154 = .ok (.aload_n 0, 1) := by decide +kernel
theorem d_C_execute_155 : decode b_C_execute 155 = .ok (.getfield 9, 3) := by decide +kernel
theorem d_C_execute_158 : decode b_C_execute 158 = .ok (.iload_n 3, 1) := by decide +kernel
theorem d_C_execute_159 : decode b_C_execute 159 = .ok (.iaload, 1) := by decide +kernel
theorem d_C_execute_160 : decode b_C_execute 160 = .ok (.putfield 62, 3) := by decide +kernel
theorem d_C_execute_163 : decode b_C_execute 163 = .ok (.aload_n 0, 1) := by decide +kernel
theorem d_C_execute_164 : decode b_C_execute 164 = .ok (.aload_n 0, 1) := by decide +kernel
theorem d_C_execute_165 : decode b_C_execute 165 = .ok (.getfield 25, 3) := by decide +kernel
theorem d_C_execute_168 : decode b_C_execute 168 = .ok (.aload_n 0, 1) := by decide +kernel
theorem d_C_execute_169 : decode b_C_execute 169 = .ok (.getfield 62, 3) := by decide +kernel
theorem d_C_execute_172 : decode b_C_execute 172 = .ok (.invokevirtual 65, 3) := by decide +kernel
theorem d_C_execute_175 : decode b_C_execute 175 = .ok (.goto 95, 3) := by decide +kernel
theorem d_C_execute_178 : decode b_C_execute 178 = .ok (.aload_n 0, 1) := by decide +kernel
theorem d_C_execute_179 : decode b_C_execute 179 = .ok (.aload_n 0, 1) := by decide +kernel
theorem d_C_execute_180 : decode b_C_execute 180 = .ok (.getfield 9, 3) := by decide +kernel
theorem d_C_execute_183 : decode b_C_execute 183 = .ok (.iload_n 3, 1) := by decide +kernel
theorem d_C_execute_184 : decode b_C_execute 184 = .ok (.iaload, 1) := by decide +kernel
theorem d_C_execute_185 : decode b_C_execute 185 = .ok (.ifCond .ne 8, 3) := by decide +kernel
theorem d_C_execute_188 : decode b_C_execute 188 = .ok (.iload 4, 2) := by decide +kernel
theorem d_C_execute_190 : decode b_C_execute 190 = .ok (.goto 7, 3) := by decide +kernel
theorem d_C_execute_193 : decode b_C_execute 193 = .ok (.aload_n 0, 1) := by decide +kernel
theorem d_C_execute_194 : decode b_C_execute 194 = .ok (.getfield 15, 3) := by decide +kernel
theorem d_C_execute_197 : decode b_C_execute 197 = .ok (.putfield 15, 3) := by decide +kernel
theorem d_C_execute_200 : decode b_C_execute 200 = .ok (.goto 70, 3) := by decide +kernel
theorem d_C_execute_203 : decode b_C_execute 203 = .ok (.aload_n 0, 1) := by decide +kernel
theorem d_C_execute_204 : decode b_C_execute 204 = .ok (.iload 4, 2) := by decide +kernel
theorem d_C_execute_206 : decode b_C_execute 206 = .ok (.putfield 15, 3) := by decide +kernel
theorem d_C_execute_209 : decode b_C_execute 209 = .ok (.goto 61, 3) := by decide +kernel
theorem d_C_execute_212 : decode b_C_execute 212 = .ok (.aload_n 0, 1) := by decide +kernel
theorem d_C_execute_213 : decode b_C_execute 213 = .ok (.iconst 1, 1) := by decide +kernel
theorem d_C_execute_214 : decode b_C_execute 214 = .ok (.putfield 28, 3) := by decide +kernel
theorem d_C_execute_217 : decode b_C_execute 217 = .ok (.aload_n 0, 1) := by decide +kernel
theorem d_C_execute_218 : decode b_C_execute 218 = .ok (.iload_n 3, 1) := by decide +kernel
theorem d_C_execute_219 : decode b_C_execute 219 = .ok (.putfield 22, 3) := by decide +kernel
theorem d_C_execute_222 : decode b_C_execute 222 = .ok (.goto 48, 3) := by decide +kernel
theorem d_C_execute_225 : decode b_C_execute 225 = .ok (.aload_n 0, 1) := by decide +kernel
theorem d_C_execute_226 : decode b_C_execute 226 = .ok (.iconst 2, 1) := by decide +kernel
theorem d_C_execute_227 : decode b_C_execute 227 = .ok (.putfield 28, 3) := by decide +kernel
theorem d_C_execute_230 : decode b_C_execute 230 = .ok (.aload_n 0, 1) := by decide +kernel
theorem d_C_execute_231 : decode b_C_execute 231 = .ok (.aload_n 0, 1) := by decide +kernel
theorem d_C_execute_232 : decode b_C_execute 232 = .ok (.getfield 9, 3) := by decide +kernel
theorem d_C_execute_235 : decode b_C_execute 235 = .ok (.iload_n 3, 1) := by decide +kernel
theorem d_C_execute_236 : decode b_C_execute 236 = .ok (.iaload, 1) := by decide +kernel
theorem d_C_execute_237 : decode b_C_execute 237 = .ok (.putfield 31, 3) := by decide +kernel
theorem d_C_execute_240 : decode b_C_execute 240 = .ok (.goto 30, 3) := by decide +kernel
theorem d_C_execute_243 : decode b_C_execute 243 = .ok (.aload_n 0, 1) := by decide +kernel
theorem d_C_execute_244 : decode b_C_execute 244 = .ok (.getfield 9, 3) := by decide +kernel
theorem d_C_execute_247 : decode b_C_execute 247 = .ok (.iload_n 3, 1) := by decide +kernel
theorem d_C_execute_248 : decode b_C_execute 248 = .ok (.iload_n 2, 1) := by decide +kernel
theorem d_C_execute_249 : decode b_C_execute 249 = .ok (.invokestatic 56, 3) := by decide +kernel
theorem d_C_execute_252 : decode b_C_execute 252 = .ok (.aload_n 0, 1) := by decide +kernel
theorem d_C_execute_253 : decode b_C_execute 253 = .ok (.getfield 9, 3) := by decide +kernel
theorem d_C_execute_256 : decode b_C_execute 256 = .ok (.iload 4, 2) := by decide +kernel
theorem d_C_execute_258 : decode b_C_execute 258 = .ok (.iaload, 1) := by decide +kernel
theorem d_C_execute_259 : decode b_C_execute 259 = .ok (.aload_n 0, 1) := by decide +kernel
theorem d_C_execute_260 : decode b_C_execute 260 = .ok (.getfield 9, 3) := by decide +kernel
theorem d_C_execute_263 : decode b_C_execute 263 = .ok (.iload 5, 2) := by decide +kernel
theorem d_C_execute_265 : decode b_C_execute 265 = .ok (.iaload, 1) := by decide +kernel
theorem d_C_execute_266 : decode b_C_execute 266 = .ok (.invokestatic 69, 3) := by decide +kernel
theorem d_C_execute_269 : decode b_C_execute 269 = .ok (.iastore, 1) := by decide +kernel
theorem d_C_execute_270 : decode b_C_execute 270 = .ok (.return_, 1) := by decide +kernel
theorem d_C_receive_0 : decode b_C_receive 0 = .ok (.aload_n 0, 1) := by decide +kernel
theorem d_C_receive_1 : decode b_C_receive 1 = .ok (.getfield 22, 3) := by decide +kernel
theorem d_C_receive_4 : decode b_C_receive 4 = .ok (.iconst (-1), 1) := by decide +kernel
theorem d_C_receive_5 : decode b_C_receive 5 = .ok (.if_icmp .eq 13, 3) := by decide +kernel
theorem d_C_receive_8 : decode b_C_receive 8 = .ok (.aload_n 0, 1) := by decide +kernel
theorem d_C_receive_9 : decode b_C_receive 9 = .ok (.getfield 9, 3) := by decide +kernel
theorem d_C_receive_12 : decode b_C_receive 12 = .ok (.aload_n 0, 1) := by decide +kernel
theorem d_C_receive_13 : decode b_C_receive 13 = .ok (.getfield 22, 3) := by decide +kernel
theorem d_C_receive_16 : decode b_C_receive 16 = .ok (.iload_n 1, 1) := by decide +kernel
theorem d_C_receive_17 : decode b_C_receive 17 = .ok (.iastore, 1) := by decide +kernel
theorem d_C_receive_18 : decode b_C_receive 18 = .ok (.return_, 1) := by decide +kernel
theorem d_C_reckon_0 : decode b_C_reckon 0 = .ok (.iload_n 0, 1) := by decide +kernel
theorem d_C_reckon_1 : decode b_C_reckon 1 = .ok (.tableswitch 45 1 3 #[27, 34, 41], 27) := by decide +kernel
theorem d_C_reckon_28 : decode b_C_reckon 28 = .ok (.iload_n 1, 1) := by decide +kernel
theorem d_C_reckon_29 : decode b_C_reckon 29 = .ok (.iload_n 2, 1) := by decide +kernel
theorem d_C_reckon_30 : decode b_C_reckon 30 = .ok (.iadd, 1) := by decide +kernel
theorem d_C_reckon_31 : decode b_C_reckon 31 = .ok (.ldc 75, 2) := by decide +kernel
theorem d_C_reckon_33 : decode b_C_reckon 33 = .ok (.iand, 1) := by decide +kernel
theorem d_C_reckon_34 : decode b_C_reckon 34 = .ok (.ireturn, 1) := by decide +kernel
theorem d_C_reckon_35 : decode b_C_reckon 35 = .ok (.iload_n 1, 1) := by decide +kernel
theorem d_C_reckon_36 : decode b_C_reckon 36 = .ok (.iload_n 2, 1) := by decide +kernel
theorem d_C_reckon_37 : decode b_C_reckon 37 = .ok (.isub, 1) := by decide +kernel
theorem d_C_reckon_38 : decode b_C_reckon 38 = .ok (.ldc 75, 2) := by decide +kernel
theorem d_C_reckon_40 : decode b_C_reckon 40 = .ok (.iand, 1) := by decide +kernel
theorem d_C_reckon_41 : decode b_C_reckon 41 = .ok (.ireturn, 1) := by decide +kernel
theorem d_C_reckon_42 : decode b_C_reckon 42 = .ok (.iload_n 1, 1) := by decide +kernel
theorem d_C_reckon_43 : decode b_C_reckon 43 = .ok (.iload_n 2, 1) := by decide +kernel
theorem d_C_reckon_44 : decode b_C_reckon 44 = .ok (.ixor, 1) := by decide +kernel
theorem d_C_reckon_45 : decode b_C_reckon 45 = .ok (.ireturn, 1) := by decide +kernel
theorem d_C_reckon_46 : decode b_C_reckon 46 = .ok (.iload_n 1, 1) := by decide +kernel
theorem d_C_reckon_47 : decode b_C_reckon 47 = .ok (.iload_n 2, 1) := by decide +kernel
theorem d_C_reckon_48 : decode b_C_reckon 48 = .ok (.bipush 15, 2) := by decide +kernel
theorem d_C_reckon_50 : decode b_C_reckon 50 = .ok (.iand, 1) := by decide +kernel
theorem d_C_reckon_51 : decode b_C_reckon 51 = .ok (.iushr, 1) := by decide +kernel
theorem d_C_reckon_52 : decode b_C_reckon 52 = .ok (.ireturn, 1) := by decide +kernel
theorem d_P_init_0 : decode b_P_init 0 = .ok (.aload_n 0, 1) := by decide +kernel
theorem d_P_init_1 : decode b_P_init 1 = .ok (.invokespecial 3, 3) := by decide +kernel
theorem d_P_init_4 : decode b_P_init 4 = .ok (.aload_n 0, 1) := by decide +kernel
theorem d_P_init_5 : decode b_P_init 5 = .ok (.bipush 64, 2) := by decide +kernel
theorem d_P_init_7 : decode b_P_init 7 = .ok (.newarray .int, 2) := by decide +kernel
theorem d_P_init_9 : decode b_P_init 9 = .ok (.putfield 11, 3) := by decide +kernel
theorem d_P_init_12 : decode b_P_init 12 = .ok (.return_, 1) := by decide +kernel
theorem d_P_put_0 : decode b_P_put 0 = .ok (.iload_n 1, 1) := by decide +kernel
theorem d_P_put_1 : decode b_P_put 1 = .ok (.ifCond .lt 24, 3) := by decide +kernel
theorem d_P_put_4 : decode b_P_put 4 = .ok (.iload_n 1, 1) := by decide +kernel
theorem d_P_put_5 : decode b_P_put 5 = .ok (.aload_n 0, 1) := by decide +kernel
theorem d_P_put_6 : decode b_P_put 6 = .ok (.getfield 15, 3) := by decide +kernel
theorem d_P_put_9 : decode b_P_put 9 = .ok (.if_icmp .gt 16, 3) := by decide +kernel
theorem d_P_put_12 : decode b_P_put 12 = .ok (.iload_n 1, 1) := by decide +kernel
theorem d_P_put_13 : decode b_P_put 13 = .ok (.bipush 64, 2) := by decide +kernel
theorem d_P_put_15 : decode b_P_put 15 = .ok (.if_icmp .ge 10, 3) := by decide +kernel
theorem d_P_put_18 : decode b_P_put 18 = .ok (.iload_n 2, 1) := by decide +kernel
theorem d_P_put_19 : decode b_P_put 19 = .ok (.invokestatic 19, 3) := by decide +kernel
theorem d_P_put_22 : decode b_P_put 22 = .ok (.ifCond .ne 5, 3) := by decide +kernel
theorem d_P_put_25 : decode b_P_put 25 = .ok (.iconst 0, 1) := by decide +kernel
theorem d_P_put_26 : decode b_P_put 26 = .ok (.ireturn, 1) := by decide +kernel
theorem d_P_put_27 : decode b_P_put 27 = .ok (.aload_n 0, 1) := by decide +kernel
theorem d_P_put_28 : decode b_P_put 28 = .ok (.getfield 11, 3) := by decide +kernel
theorem d_P_put_31 : decode b_P_put 31 = .ok (.iload_n 1, 1) := by decide +kernel
theorem d_P_put_32 : decode b_P_put 32 = .ok (.iload_n 2, 1) := by decide +kernel
theorem d_P_put_33 : decode b_P_put 33 = .ok (.iastore, 1) := by decide +kernel
theorem d_P_put_34 : decode b_P_put 34 = .ok (.iload_n 1, 1) := by decide +kernel
theorem d_P_put_35 : decode b_P_put 35 = .ok (.aload_n 0, 1) := by decide +kernel
theorem d_P_put_36 : decode b_P_put 36 = .ok (.getfield 15, 3) := by decide +kernel
theorem d_P_put_39 : decode b_P_put 39 = .ok (.if_icmp .ne 13, 3) := by decide +kernel
theorem d_P_put_42 : decode b_P_put 42 = .ok (.aload_n 0, 1) := by decide +kernel
theorem d_P_put_43 : decode b_P_put 43 = .ok (.dup, 1) := by decide +kernel
theorem d_P_put_44 : decode b_P_put 44 = .ok (.getfield 15, 3) := by decide +kernel
theorem d_P_put_47 : decode b_P_put 47 = .ok (.iconst 1, 1) := by decide +kernel
theorem d_P_put_48 : decode b_P_put 48 = .ok (.iadd, 1) := by decide +kernel
theorem d_P_put_49 : decode b_P_put 49 = .ok (.putfield 15, 3) := by decide +kernel
theorem d_P_put_52 : decode b_P_put 52 = .ok (.iconst 1, 1) := by decide +kernel
theorem d_P_put_53 : decode b_P_put 53 = .ok (.ireturn, 1) := by decide +kernel
theorem d_P_canRun_0 : decode b_P_canRun 0 = .ok (.iconst 0, 1) := by decide +kernel
theorem d_P_canRun_1 : decode b_P_canRun 1 = .ok (.istore_n 1, 1) := by decide +kernel
theorem d_P_canRun_2 : decode b_P_canRun 2 = .ok (.iload_n 1, 1) := by decide +kernel
theorem d_P_canRun_3 : decode b_P_canRun 3 = .ok (.aload_n 0, 1) := by decide +kernel
theorem d_P_canRun_4 : decode b_P_canRun 4 = .ok (.getfield 15, 3) := by decide +kernel
theorem d_P_canRun_7 : decode b_P_canRun 7 = .ok (.if_icmp .ge 49, 3) := by decide +kernel
theorem d_P_canRun_10 : decode b_P_canRun 10 = .ok (.aload_n 0, 1) := by decide +kernel
theorem d_P_canRun_11 : decode b_P_canRun 11 = .ok (.getfield 11, 3) := by decide +kernel
theorem d_P_canRun_14 : decode b_P_canRun 14 = .ok (.iload_n 1, 1) := by decide +kernel
theorem d_P_canRun_15 : decode b_P_canRun 15 = .ok (.iaload, 1) := by decide +kernel
theorem d_P_canRun_16 : decode b_P_canRun 16 = .ok (.invokestatic 23, 3) := by decide +kernel
theorem d_P_canRun_19 : decode b_P_canRun 19 = .ok (.istore_n 2, 1) := by decide +kernel
theorem d_P_canRun_20 : decode b_P_canRun 20 = .ok (.iload_n 2, 1) := by decide +kernel
theorem d_P_canRun_21 : decode b_P_canRun 21 = .ok (.bipush 7, 2) := by decide +kernel
theorem d_P_canRun_23 : decode b_P_canRun 23 = .ok (.if_icmp .eq 9, 3) := by decide +kernel
theorem d_P_canRun_26 : decode b_P_canRun 26 = .ok (.iload_n 2, 1) := by decide +kernel
theorem d_P_canRun_27 : decode b_P_canRun 27 = .ok (.bipush 8, 2) := by decide +kernel
theorem d_P_canRun_29 : decode b_P_canRun 29 = .ok (.if_icmp .ne 21, 3) := by decide +kernel
theorem d_P_canRun_32 : decode b_P_canRun 32 = .ok (.aload_n 0, 1) := by decide +kernel
theorem d_P_canRun_33 : decode b_P_canRun 33 = .ok (.getfield 11, 3) := by decide +kernel
theorem d_P_canRun_36 : decode b_P_canRun 36 = .ok (.iload_n 1, 1) := by decide +kernel
theorem d_P_canRun_37 : decode b_P_canRun 37 = .ok (.iaload, 1) := by decide +kernel
theorem d_P_canRun_38 : decode b_P_canRun 38 = .ok (.invokestatic 27, 3) := by decide +kernel
theorem d_P_canRun_41 : decode b_P_canRun 41 = .ok (.aload_n 0, 1) := by decide +kernel
theorem d_P_canRun_42 : decode b_P_canRun 42 = .ok (.getfield 15, 3) := by decide +kernel
theorem d_P_canRun_45 : decode b_P_canRun 45 = .ok (.if_icmp .lt 5, 3) := by decide +kernel
theorem d_P_canRun_48 : decode b_P_canRun 48 = .ok (.iconst 0, 1) := by decide +kernel
theorem d_P_canRun_49 : decode b_P_canRun 49 = .ok (.ireturn, 1) := by decide +kernel
theorem d_P_canRun_50 : decode b_P_canRun 50 = .ok (.iinc 1 1, 3) := by decide +kernel
theorem d_P_canRun_53 : decode b_P_canRun 53 = .ok (.goto (-51), 3) := by decide +kernel
theorem d_P_canRun_56 : decode b_P_canRun 56 = .ok (.aload_n 0, 1) := by decide +kernel
theorem d_P_canRun_57 : decode b_P_canRun 57 = .ok (.getfield 15, 3) := by decide +kernel
theorem d_P_canRun_60 : decode b_P_canRun 60 = .ok (.ifCond .le 7, 3) := by decide +kernel
theorem d_P_canRun_63 : decode b_P_canRun 63 = .ok (.iconst 1, 1) := by decide +kernel
theorem d_P_canRun_64 : decode b_P_canRun 64 = .ok (.goto 4, 3) := by decide +kernel
theorem d_P_canRun_67 : decode b_P_canRun 67 = .ok (.iconst 0, 1) := by decide +kernel
theorem d_P_canRun_68 : decode b_P_canRun 68 = .ok (.ireturn, 1) := by decide +kernel
theorem d_P_instructionAt_0 : decode b_P_instructionAt 0 = .ok (.aload_n 0, 1) := by decide +kernel
theorem d_P_instructionAt_1 : decode b_P_instructionAt 1 = .ok (.getfield 11, 3) := by decide +kernel
theorem d_P_instructionAt_4 : decode b_P_instructionAt 4 = .ok (.aload_n 0, 1) := by decide +kernel
theorem d_P_instructionAt_5 : decode b_P_instructionAt 5 = .ok (.iload_n 1, 1) := by decide +kernel
theorem d_P_instructionAt_6 : decode b_P_instructionAt 6 = .ok (.invokevirtual 30, 3) := by decide +kernel
theorem d_P_instructionAt_9 : decode b_P_instructionAt 9 = .ok (.iaload, 1) := by decide +kernel
theorem d_P_instructionAt_10 : decode b_P_instructionAt 10 = .ok (.ireturn, 1) := by decide +kernel
theorem d_P_wrap_0 : decode b_P_wrap 0 = .ok (.aload_n 0, 1) := by decide +kernel
theorem d_P_wrap_1 : decode b_P_wrap 1 = .ok (.getfield 15, 3) := by decide +kernel
theorem d_P_wrap_4 : decode b_P_wrap 4 = .ok (.ifCond .le 12, 3) := by decide +kernel
theorem d_P_wrap_7 : decode b_P_wrap 7 = .ok (.iload_n 1, 1) := by decide +kernel
theorem d_P_wrap_8 : decode b_P_wrap 8 = .ok (.aload_n 0, 1) := by decide +kernel
theorem d_P_wrap_9 : decode b_P_wrap 9 = .ok (.getfield 15, 3) := by decide +kernel
theorem d_P_wrap_12 : decode b_P_wrap 12 = .ok (.irem, 1) := by decide +kernel
theorem d_P_wrap_13 : decode b_P_wrap 13 = .ok (.goto 4, 3) := by decide +kernel
theorem d_P_wrap_16 : decode b_P_wrap 16 = .ok (.iconst 0, 1) := by decide +kernel
theorem d_P_wrap_17 : decode b_P_wrap 17 = .ok (.ireturn, 1) := by decide +kernel
theorem d_P_isInstruction_0 : decode b_P_isInstruction 0 = .ok (.iload_n 0, 1) := by decide +kernel
theorem d_P_isInstruction_1 : decode b_P_isInstruction 1 = .ok (.invokestatic 23, 3) := by decide +kernel
theorem d_P_isInstruction_4 : decode b_P_isInstruction 4 = .ok (.tableswitch 132 0 10 #[60, 68, 68, 68, 68, 104, 104, 60, 130, 60, 60], 60) := by decide +kernel
theorem d_P_isInstruction_64 : decode b_P_isInstruction 64 = .ok (.iload_n 0, 1) := by decide +kernel
theorem d_P_isInstruction_65 : decode b_P_isInstruction 65 = .ok (.invokestatic 33, 3) := by decide +kernel
theorem d_P_isInstruction_68 : decode b_P_isInstruction 68 = .ok (.invokestatic 36, 3) := by decide +kernel
theorem d_P_isInstruction_71 : decode b_P_isInstruction 71 = .ok (.ireturn, 1) := by decide +kernel
theorem d_P_isInstruction_72 : decode b_P_isInstruction 72 = .ok (.iload_n 0, 1) := by decide +kernel
theorem d_P_isInstruction_73 : decode b_P_isInstruction 73 = .ok (.invokestatic 33, 3) := by decide +kernel
theorem d_P_isInstruction_76 : decode b_P_isInstruction 76 = .ok (.invokestatic 36, 3) := by decide +kernel
theorem d_P_isInstruction_79 : decode b_P_isInstruction 79 = .ok (.ifCond .eq 27, 3) := by decide +kernel
theorem d_P_isInstruction_82 : decode b_P_isInstruction 82 = .ok (.iload_n 0, 1) := by decide +kernel
theorem d_P_isInstruction_83 : decode b_P_isInstruction 83 = .ok (.invokestatic 27, 3) := by decide +kernel
theorem d_P_isInstruction_86 : decode b_P_isInstruction 86 = .ok (.invokestatic 36, 3) := by decide +kernel
theorem d_P_isInstruction_89 : decode b_P_isInstruction 89 = .ok (.ifCond .eq 17, 3) := by decide +kernel
theorem d_P_isInstruction_92 : decode b_P_isInstruction 92 = .ok (.iload_n 0, 1) := by decide +kernel
theorem d_P_isInstruction_93 : decode b_P_isInstruction 93 = .ok (.invokestatic 39, 3) := by decide +kernel
theorem d_P_isInstruction_96 : decode b_P_isInstruction 96 = .ok (.invokestatic 36, 3) := by decide +kernel
theorem d_P_isInstruction_99 : decode b_P_isInstruction 99 = .ok (.ifCond .eq 7, 3) := by decide +kernel
theorem d_P_isInstruction_102 : decode b_P_isInstruction 102 = .ok (.iconst 1, 1) := by decide +kernel
theorem d_P_isInstruction_103 : decode b_P_isInstruction 103 = .ok (.goto 4, 3) := by decide +kernel
theorem d_P_isInstruction_106 : decode b_P_isInstruction 106 = .ok (.iconst 0, 1) := by decide +kernel
theorem d_P_isInstruction_107 : decode b_P_isInstruction 107 = .ok (.ireturn, 1) := by decide +kernel
theorem d_P_isInstruction_108 : decode b_P_isInstruction 108 = .ok (.iload_n 0, 1) := by decide +kernel
theorem d_P_isInstruction_109 : decode b_P_isInstruction 109 = .ok (.invokestatic 33, 3) := by decide +kernel
theorem d_P_isInstruction_112 : decode b_P_isInstruction 112 = .ok (.invokestatic 36, 3) := by decide +kernel
theorem d_P_isInstruction_115 : decode b_P_isInstruction 115 = .ok (.ifCond .eq 17, 3) := by decide +kernel
theorem d_P_isInstruction_118 : decode b_P_isInstruction 118 = .ok (.iload_n 0, 1) := by decide +kernel
theorem d_P_isInstruction_119 : decode b_P_isInstruction 119 = .ok (.invokestatic 27, 3) := by decide +kernel
theorem d_P_isInstruction_122 : decode b_P_isInstruction 122 = .ok (.invokestatic 36, 3) := by decide +kernel
theorem d_P_isInstruction_125 : decode b_P_isInstruction 125 = .ok (.ifCond .eq 7, 3) := by decide +kernel
theorem d_P_isInstruction_128 : decode b_P_isInstruction 128 = .ok (.iconst 1, 1) := by decide +kernel
theorem d_P_isInstruction_129 : decode b_P_isInstruction 129 = .ok (.goto 4, 3) := by decide +kernel
theorem d_P_isInstruction_132 : decode b_P_isInstruction 132 = .ok (.iconst 0, 1) := by decide +kernel
theorem d_P_isInstruction_133 : decode b_P_isInstruction 133 = .ok (.ireturn, 1) := by decide +kernel
theorem d_P_isInstruction_134 : decode b_P_isInstruction 134 = .ok (.iconst 1, 1) := by decide +kernel
theorem d_P_isInstruction_135 : decode b_P_isInstruction 135 = .ok (.ireturn, 1) := by decide +kernel
theorem d_P_isInstruction_136 : decode b_P_isInstruction 136 = .ok (.iconst 0, 1) := by decide +kernel
theorem d_P_isInstruction_137 : decode b_P_isInstruction 137 = .ok (.ireturn, 1) := by decide +kernel
theorem d_P_isRegister_0 : decode b_P_isRegister 0 = .ok (.iload_n 0, 1) := by decide +kernel
theorem d_P_isRegister_1 : decode b_P_isRegister 1 = .ok (.bipush 8, 2) := by decide +kernel
theorem d_P_isRegister_3 : decode b_P_isRegister 3 = .ok (.if_icmp .ge 7, 3) := by decide +kernel
theorem d_P_isRegister_6 : decode b_P_isRegister 6 = .ok (.iconst 1, 1) := by decide +kernel
theorem d_P_isRegister_7 : decode b_P_isRegister 7 = .ok (.goto 4, 3) := by decide +kernel
theorem d_P_isRegister_10 : decode b_P_isRegister 10 = .ok (.iconst 0, 1) := by decide +kernel
theorem d_P_isRegister_11 : decode b_P_isRegister 11 = .ok (.ireturn, 1) := by decide +kernel
theorem d_P_opOf_0 : decode b_P_opOf 0 = .ok (.iload_n 0, 1) := by decide +kernel
theorem d_P_opOf_1 : decode b_P_opOf 1 = .ok (.bipush 24, 2) := by decide +kernel
theorem d_P_opOf_3 : decode b_P_opOf 3 = .ok (.iushr, 1) := by decide +kernel
theorem d_P_opOf_4 : decode b_P_opOf 4 = .ok (.ireturn, 1) := by decide +kernel
theorem d_P_aOf_0 : decode b_P_aOf 0 = .ok (.iload_n 0, 1) := by decide +kernel
theorem d_P_aOf_1 : decode b_P_aOf 1 = .ok (.bipush 16, 2) := by decide +kernel
theorem d_P_aOf_3 : decode b_P_aOf 3 = .ok (.iushr, 1) := by decide +kernel
theorem d_P_aOf_4 : decode b_P_aOf 4 = .ok (.sipush 255, 3) := by decide +kernel
theorem d_P_aOf_7 : decode b_P_aOf 7 = .ok (.iand, 1) := by decide +kernel
theorem d_P_aOf_8 : decode b_P_aOf 8 = .ok (.ireturn, 1) := by decide +kernel
theorem d_P_bOf_0 : decode b_P_bOf 0 = .ok (.iload_n 0, 1) := by decide +kernel
theorem d_P_bOf_1 : decode b_P_bOf 1 = .ok (.bipush 8, 2) := by decide +kernel
theorem d_P_bOf_3 : decode b_P_bOf 3 = .ok (.iushr, 1) := by decide +kernel
theorem d_P_bOf_4 : decode b_P_bOf 4 = .ok (.sipush 255, 3) := by decide +kernel
theorem d_P_bOf_7 : decode b_P_bOf 7 = .ok (.iand, 1) := by decide +kernel
theorem d_P_bOf_8 : decode b_P_bOf 8 = .ok (.ireturn, 1) := by decide +kernel
theorem d_P_cOf_0 : decode b_P_cOf 0 = .ok (.iload_n 0, 1) := by decide +kernel
theorem d_P_cOf_1 : decode b_P_cOf 1 = .ok (.sipush 255, 3) := by decide +kernel
theorem d_P_cOf_4 : decode b_P_cOf 4 = .ok (.iand, 1) := by decide +kernel
theorem d_P_cOf_5 : decode b_P_cOf 5 = .ok (.ireturn, 1) := by decide +kernel
theorem d_D_init_0 : decode b_D_init 0 = .ok (.aload_n 0, 1) := by decide +kernel
theorem d_D_init_1 : decode b_D_init 1 = .ok (.invokespecial 3, 3) := by decide +kernel
theorem d_D_init_4 : decode b_D_init 4 = .ok (.aload_n 0, 1) := by decide +kernel
theorem d_D_init_5 : decode b_D_init 5 = .ok (.bipush 32, 2) := by decide +kernel
theorem d_D_init_7 : decode b_D_init 7 = .ok (.newarray .int, 2) := by decide +kernel
theorem d_D_init_9 : decode b_D_init 9 = .ok (.putfield 9, 3) := by decide +kernel
theorem d_D_init_12 : decode b_D_init 12 = .ok (.return_, 1) := by decide +kernel
theorem d_D_makeBlank_0 : decode b_D_makeBlank 0 = .ok (.aload_n 0, 1) := by decide +kernel
theorem d_D_makeBlank_1 : decode b_D_makeBlank 1 = .ok (.invokevirtual 15, 3) := by decide +kernel
theorem d_D_makeBlank_4 : decode b_D_makeBlank 4 = .ok (.iconst 0, 1) := by decide +kernel
theorem d_D_makeBlank_5 : decode b_D_makeBlank 5 = .ok (.istore_n 2, 1) := by decide +kernel
theorem d_D_makeBlank_6 : decode b_D_makeBlank 6 = .ok (.iload_n 2, 1) := by decide +kernel
theorem d_D_makeBlank_7 : decode b_D_makeBlank 7 = .ok (.bipush 32, 2) := by decide +kernel
theorem d_D_makeBlank_9 : decode b_D_makeBlank 9 = .ok (.if_icmp .ge 15, 3) := by decide +kernel
theorem d_D_makeBlank_12 : decode b_D_makeBlank 12 = .ok (.aload_n 0, 1) := by decide +kernel
theorem d_D_makeBlank_13 : decode b_D_makeBlank 13 = .ok (.iload_n 2, 1) := by decide +kernel
theorem d_D_makeBlank_14 : decode b_D_makeBlank 14 = .ok (.iconst 0, 1) := by decide +kernel
theorem d_D_makeBlank_15 : decode b_D_makeBlank 15 = .ok (.invokevirtual 18, 3) := by decide +kernel
theorem d_D_makeBlank_18 : decode b_D_makeBlank 18 = .ok (.iinc 2 1, 3) := by decide +kernel
theorem d_D_makeBlank_21 : decode b_D_makeBlank 21 = .ok (.goto (-15), 3) := by decide +kernel
theorem d_D_makeBlank_24 : decode b_D_makeBlank 24 = .ok (.aload_n 0, 1) := by decide +kernel
theorem d_D_makeBlank_25 : decode b_D_makeBlank 25 = .ok (.iload_n 1, 1) := by decide +kernel
theorem d_D_makeBlank_26 : decode b_D_makeBlank 26 = .ok (.putfield 22, 3) := by decide +kernel
theorem d_D_makeBlank_29 : decode b_D_makeBlank 29 = .ok (.aload_n 0, 1) := by decide +kernel
theorem d_D_makeBlank_30 : decode b_D_makeBlank 30 = .ok (.iconst 0, 1) := by decide +kernel
theorem d_D_makeBlank_31 : decode b_D_makeBlank 31 = .ok (.putfield 26, 3) := by decide +kernel
theorem d_D_makeBlank_34 : decode b_D_makeBlank 34 = .ok (.aload_n 0, 1) := by decide +kernel
theorem d_D_makeBlank_35 : decode b_D_makeBlank 35 = .ok (.iconst 0, 1) := by decide +kernel
theorem d_D_makeBlank_36 : decode b_D_makeBlank 36 = .ok (.putfield 29, 3) := by decide +kernel
theorem d_D_makeBlank_39 : decode b_D_makeBlank 39 = .ok (.aload_n 0, 1) := by decide +kernel
theorem d_D_makeBlank_40 : decode b_D_makeBlank 40 = .ok (.iconst 0, 1) := by decide +kernel
theorem d_D_makeBlank_41 : decode b_D_makeBlank 41 = .ok (.putfield 32, 3) := by decide +kernel
theorem d_D_makeBlank_44 : decode b_D_makeBlank 44 = .ok (.aload_n 0, 1) := by decide +kernel
theorem d_D_makeBlank_45 : decode b_D_makeBlank 45 = .ok (.iconst 0, 1) := by decide +kernel
theorem d_D_makeBlank_46 : decode b_D_makeBlank 46 = .ok (.putfield 36, 3) := by decide +kernel
theorem d_D_makeBlank_49 : decode b_D_makeBlank 49 = .ok (.aload_n 0, 1) := by decide +kernel
theorem d_D_makeBlank_50 : decode b_D_makeBlank 50 = .ok (.iconst 0, 1) := by decide +kernel
theorem d_D_makeBlank_51 : decode b_D_makeBlank 51 = .ok (.putfield 39, 3) := by decide +kernel
theorem d_D_makeBlank_54 : decode b_D_makeBlank 54 = .ok (.aload_n 0, 1) := by decide +kernel
theorem d_D_makeBlank_55 : decode b_D_makeBlank 55 = .ok (.iconst 0, 1) := by decide +kernel
theorem d_D_makeBlank_56 : decode b_D_makeBlank 56 = .ok (.putfield 42, 3) := by decide +kernel
theorem d_D_makeBlank_59 : decode b_D_makeBlank 59 = .ok (.aload_n 0, 1) := by decide +kernel
theorem d_D_makeBlank_60 : decode b_D_makeBlank 60 = .ok (.invokevirtual 45, 3) := by decide +kernel
theorem d_D_makeBlank_63 : decode b_D_makeBlank 63 = .ok (.return_, 1) := by decide +kernel
theorem d_D_isTrusted_0 : decode b_D_isTrusted 0 = .ok (.aload_n 0, 1) := by decide +kernel
theorem d_D_isTrusted_1 : decode b_D_isTrusted 1 = .ok (.getfield 22, 3) := by decide +kernel
theorem d_D_isTrusted_4 : decode b_D_isTrusted 4 = .ok (.ifCond .ne 14, 3) := by decide +kernel
theorem d_D_isTrusted_7 : decode b_D_isTrusted 7 = .ok (.aload_n 0, 1) := by decide +kernel
theorem d_D_isTrusted_8 : decode b_D_isTrusted 8 = .ok (.getfield 48, 3) := by decide +kernel
theorem d_D_isTrusted_11 : decode b_D_isTrusted 11 = .ok (.ifCond .ne 7, 3) := by decide +kernel
theorem d_D_isTrusted_14 : decode b_D_isTrusted 14 = .ok (.iconst 1, 1) := by decide +kernel
theorem d_D_isTrusted_15 : decode b_D_isTrusted 15 = .ok (.goto 4, 3) := by decide +kernel
theorem d_D_isTrusted_18 : decode b_D_isTrusted 18 = .ok (.iconst 0, 1) := by decide +kernel
theorem d_D_isTrusted_19 : decode b_D_isTrusted 19 = .ok (.ireturn, 1) := by decide +kernel
theorem d_D_shownMark_0 : decode b_D_shownMark 0 = .ok (.aload_n 0, 1) := by decide +kernel
theorem d_D_shownMark_1 : decode b_D_shownMark 1 = .ok (.getfield 22, 3) := by decide +kernel
theorem d_D_shownMark_4 : decode b_D_shownMark 4 = .ok (.iconst 1, 1) := by decide +kernel
theorem d_D_shownMark_5 : decode b_D_shownMark 5 = .ok (.if_icmp .ne 8, 3) := by decide +kernel
theorem d_D_shownMark_8 : decode b_D_shownMark 8 = .ok (.aload_n 0, 1) := by decide +kernel
theorem d_D_shownMark_9 : decode b_D_shownMark 9 = .ok (.getfield 26, 3) := by decide +kernel
theorem d_D_shownMark_12 : decode b_D_shownMark 12 = .ok (.ireturn, 1) := by decide +kernel
theorem d_D_shownMark_13 : decode b_D_shownMark 13 = .ok (.aload_n 0, 1) := by decide +kernel
theorem d_D_shownMark_14 : decode b_D_shownMark 14 = .ok (.getfield 22, 3) := by decide +kernel
theorem d_D_shownMark_17 : decode b_D_shownMark 17 = .ok (.ifCond .ne 8, 3) := by decide +kernel
theorem d_D_shownMark_20 : decode b_D_shownMark 20 = .ok (.bipush 32, 2) := by decide +kernel
theorem d_D_shownMark_22 : decode b_D_shownMark 22 = .ok (.goto 4, 3) := by decide +kernel
theorem d_D_shownMark_25 : decode b_D_shownMark 25 = .ok (.iconst 0, 1) := by decide +kernel
theorem d_D_shownMark_26 : decode b_D_shownMark 26 = .ok (.ireturn, 1) := by decide +kernel
theorem d_D_forgetLastStep_0 : decode b_D_forgetLastStep 0 = .ok (.aload_n 0, 1) := by decide +kernel
theorem d_D_forgetLastStep_1 : decode b_D_forgetLastStep 1 = .ok (.invokevirtual 51, 3) := by decide +kernel
theorem d_D_forgetLastStep_4 : decode b_D_forgetLastStep 4 = .ok (.aload_n 0, 1) := by decide +kernel
theorem d_D_forgetLastStep_5 : decode b_D_forgetLastStep 5 = .ok (.iconst 0, 1) := by decide +kernel
theorem d_D_forgetLastStep_6 : decode b_D_forgetLastStep 6 = .ok (.putfield 48, 3) := by decide +kernel
theorem d_D_forgetLastStep_9 : decode b_D_forgetLastStep 9 = .ok (.aload_n 0, 1) := by decide +kernel
theorem d_D_forgetLastStep_10 : decode b_D_forgetLastStep 10 = .ok (.iconst 0, 1) := by decide +kernel
theorem d_D_forgetLastStep_11 : decode b_D_forgetLastStep 11 = .ok (.putfield 54, 3) := by decide +kernel
theorem d_D_forgetLastStep_14 : decode b_D_forgetLastStep 14 = .ok (.return_, 1) := by decide +kernel
theorem d_D_wishAsBallot_0 : decode b_D_wishAsBallot 0 = .ok (.aload_n 0, 1) := by decide +kernel
theorem d_D_wishAsBallot_1 : decode b_D_wishAsBallot 1 = .ok (.getfield 57, 3) := by decide +kernel
theorem d_D_wishAsBallot_4 : decode b_D_wishAsBallot 4 = .ok (.iconst 2, 1) := by decide +kernel
theorem d_D_wishAsBallot_5 : decode b_D_wishAsBallot 5 = .ok (.imul, 1) := by decide +kernel
theorem d_D_wishAsBallot_6 : decode b_D_wishAsBallot 6 = .ok (.aload_n 0, 1) := by decide +kernel
theorem d_D_wishAsBallot_7 : decode b_D_wishAsBallot 7 = .ok (.getfield 54, 3) := by decide +kernel
theorem d_D_wishAsBallot_10 : decode b_D_wishAsBallot 10 = .ok (.ifCond .eq 7, 3) := by decide +kernel
theorem d_D_wishAsBallot_13 : decode b_D_wishAsBallot 13 = .ok (.iconst 1, 1) := by decide +kernel
theorem d_D_wishAsBallot_14 : decode b_D_wishAsBallot 14 = .ok (.goto 4, 3) := by decide +kernel
theorem d_D_wishAsBallot_17 : decode b_D_wishAsBallot 17 = .ok (.iconst 0, 1) := by decide +kernel
theorem d_D_wishAsBallot_18 : decode b_D_wishAsBallot 18 = .ok (.iadd, 1) := by decide +kernel
theorem d_D_wishAsBallot_19 : decode b_D_wishAsBallot 19 = .ok (.bipush 16, 2) := by decide +kernel
theorem d_D_wishAsBallot_21 : decode b_D_wishAsBallot 21 = .ok (.ishl, 1) := by decide +kernel
theorem d_D_wishAsBallot_22 : decode b_D_wishAsBallot 22 = .ok (.aload_n 0, 1) := by decide +kernel
theorem d_D_wishAsBallot_23 : decode b_D_wishAsBallot 23 = .ok (.getfield 60, 3) := by decide +kernel
theorem d_D_wishAsBallot_26 : decode b_D_wishAsBallot 26 = .ok (.ior, 1) := by decide +kernel
theorem d_D_wishAsBallot_27 : decode b_D_wishAsBallot 27 = .ok (.ireturn, 1) := by decide +kernel
theorem d_D_digest_0 : decode b_D_digest 0 = .ok (.aload_n 0, 1) := by decide +kernel
theorem d_D_digest_1 : decode b_D_digest 1 = .ok (.getfield 63, 3) := by decide +kernel
theorem d_D_digest_4 : decode b_D_digest 4 = .ok (.istore_n 1, 1) := by decide +kernel
theorem d_D_digest_5 : decode b_D_digest 5 = .ok (.iconst 0, 1) := by decide +kernel
theorem d_D_digest_6 : decode b_D_digest 6 = .ok (.istore_n 2, 1) := by decide +kernel
theorem d_D_digest_7 : decode b_D_digest 7 = .ok (.iload_n 2, 1) := by decide +kernel
theorem d_D_digest_8 : decode b_D_digest 8 = .ok (.bipush 8, 2) := by decide +kernel
theorem d_D_digest_10 : decode b_D_digest 10 = .ok (.if_icmp .ge 37, 3) := by decide +kernel
theorem d_D_digest_13 : decode b_D_digest 13 = .ok (.aload_n 0, 1) := by decide +kernel
theorem d_D_digest_14 : decode b_D_digest 14 = .ok (.getfield 66, 3) := by decide +kernel
theorem d_D_digest_17 : decode b_D_digest 17 = .ok (.iload_n 2, 1) := by decide +kernel
theorem d_D_digest_18 : decode b_D_digest 18 = .ok (.iaload, 1) := by decide +kernel
theorem d_D_digest_19 : decode b_D_digest 19 = .ok (.iload_n 2, 1) := by decide +kernel
theorem d_D_digest_20 : decode b_D_digest 20 = .ok (.ishl, 1) := by decide +kernel
theorem d_D_digest_21 : decode b_D_digest 21 = .ok (.aload_n 0, 1) := by decide +kernel
theorem d_D_digest_22 : decode b_D_digest 22 = .ok (.getfield 66, 3) := by decide +kernel
theorem d_D_digest_25 : decode b_D_digest 25 = .ok (.iload_n 2, 1) := by decide +kernel
theorem d_D_digest_26 : decode b_D_digest 26 = .ok (.iaload, 1) := by decide +kernel
theorem d_D_digest_27 : decode b_D_digest 27 = .ok (.bipush 16, 2) := by decide +kernel
theorem d_D_digest_29 : decode b_D_digest 29 = .ok (.iload_n 2, 1) := by decide +kernel
theorem d_D_digest_30 : decode b_D_digest 30 = .ok (.isub, 1) := by decide +kernel
theorem d_D_digest_31 : decode b_D_digest 31 = .ok (.iushr, 1) := by decide +kernel
theorem d_D_digest_32 : decode b_D_digest 32 = .ok (.ior, 1) := by decide +kernel
theorem d_D_digest_33 : decode b_D_digest 33 = .ok (.istore_n 3, 1) := by decide +kernel
theorem d_D_digest_34 : decode b_D_digest 34 = .ok (.iload_n 1, 1) := by decide +kernel
theorem d_D_digest_35 : decode b_D_digest 35 = .ok (.iload_n 3, 1) := by decide +kernel
theorem d_D_digest_36 : decode b_D_digest 36 = .ok (.ldc 71, 2) := by decide +kernel
theorem d_D_digest_38 : decode b_D_digest 38 = .ok (.iand, 1) := by decide +kernel
theorem d_D_digest_39 : decode b_D_digest 39 = .ok (.ixor, 1) := by decide +kernel
theorem d_D_digest_40 : decode b_D_digest 40 = .ok (.istore_n 1, 1) := by decide +kernel
theorem d_D_digest_41 : decode b_D_digest 41 = .ok (.iinc 2 1, 3) := by decide +kernel
theorem d_D_digest_44 : decode b_D_digest 44 = .ok (.goto (-37), 3) := by decide +kernel
theorem d_D_digest_47 : decode b_D_digest 47 = .ok (.iload_n 1, 1) := by decide +kernel
theorem d_D_digest_48 : decode b_D_digest 48 = .ok (.ireturn, 1) := by decide +kernel
theorem d_D_readWord_0 : decode b_D_readWord 0 = .ok (.aload_n 0, 1) := by decide +kernel
theorem d_D_readWord_1 : decode b_D_readWord 1 = .ok (.iload_n 1, 1) := by decide +kernel
theorem d_D_readWord_2 : decode b_D_readWord 2 = .ok (.invokevirtual 72, 3) := by decide +kernel
theorem d_D_readWord_5 : decode b_D_readWord 5 = .ok (.ifCond .eq 10, 3) := by decide +kernel
theorem d_D_readWord_8 : decode b_D_readWord 8 = .ok (.aload_n 0, 1) := by decide +kernel
theorem d_D_readWord_9 : decode b_D_readWord 9 = .ok (.iconst 1, 1) := by decide +kernel
theorem d_D_readWord_10 : decode b_D_readWord 10 = .ok (.putfield 54, 3) := by decide +kernel
theorem d_D_readWord_13 : decode b_D_readWord 13 = .ok (.iconst 0, 1) := by decide +kernel
theorem d_D_readWord_14 : decode b_D_readWord 14 = .ok (.ireturn, 1) := by decide +kernel
theorem d_D_readWord_15 : decode b_D_readWord 15 = .ok (.aload_n 0, 1) := by decide +kernel
theorem d_D_readWord_16 : decode b_D_readWord 16 = .ok (.getfield 9, 3) := by decide +kernel
theorem d_D_readWord_19 : decode b_D_readWord 19 = .ok (.iload_n 1, 1) := by decide +kernel
theorem d_D_readWord_20 : decode b_D_readWord 20 = .ok (.iaload, 1) := by decide +kernel
theorem d_D_readWord_21 : decode b_D_readWord 21 = .ok (.invokestatic 76, 3) := by decide +kernel
theorem d_D_readWord_24 : decode b_D_readWord 24 = .ok (.ireturn, 1) := by decide +kernel
theorem d_D_writeWord_0 : decode b_D_writeWord 0 = .ok (.aload_n 0, 1) := by decide +kernel
theorem d_D_writeWord_1 : decode b_D_writeWord 1 = .ok (.getfield 9, 3) := by decide +kernel
theorem d_D_writeWord_4 : decode b_D_writeWord 4 = .ok (.iload_n 1, 1) := by decide +kernel
theorem d_D_writeWord_5 : decode b_D_writeWord 5 = .ok (.iload_n 2, 1) := by decide +kernel
theorem d_D_writeWord_6 : decode b_D_writeWord 6 = .ok (.invokestatic 80, 3) := by decide +kernel
theorem d_D_writeWord_9 : decode b_D_writeWord 9 = .ok (.iastore, 1) := by decide +kernel
theorem d_D_writeWord_10 : decode b_D_writeWord 10 = .ok (.return_, 1) := by decide +kernel
theorem d_D_findsSpoilt_0 : decode b_D_findsSpoilt 0 = .ok (.aload_n 0, 1) := by decide +kernel
theorem d_D_findsSpoilt_1 : decode b_D_findsSpoilt 1 = .ok (.getfield 9, 3) := by decide +kernel
theorem d_D_findsSpoilt_4 : decode b_D_findsSpoilt 4 = .ok (.iload_n 1, 1) := by decide +kernel
theorem d_D_findsSpoilt_5 : decode b_D_findsSpoilt 5 = .ok (.iaload, 1) := by decide +kernel
theorem d_D_findsSpoilt_6 : decode b_D_findsSpoilt 6 = .ok (.invokestatic 83, 3) := by decide +kernel
theorem d_D_findsSpoilt_9 : decode b_D_findsSpoilt 9 = .ok (.istore_n 2, 1) := by decide +kernel
theorem d_D_findsSpoilt_10 : decode b_D_findsSpoilt 10 = .ok (.aload_n 0, 1) := by decide +kernel
theorem d_D_findsSpoilt_11 : decode b_D_findsSpoilt 11 = .ok (.getfield 9, 3) := by decide +kernel
theorem d_D_findsSpoilt_14 : decode b_D_findsSpoilt 14 = .ok (.iload_n 1, 1) := by decide +kernel
theorem d_D_findsSpoilt_15 : decode b_D_findsSpoilt 15 = .ok (.iaload, 1) := by decide +kernel
theorem d_D_findsSpoilt_16 : decode b_D_findsSpoilt 16 = .ok (.invokestatic 86, 3) := by decide +kernel
theorem d_D_findsSpoilt_19 : decode b_D_findsSpoilt 19 = .ok (.iconst 1, 1) := by decide +kernel
theorem d_D_findsSpoilt_20 : decode b_D_findsSpoilt 20 = .ok (.iand, 1) := by decide +kernel
theorem d_D_findsSpoilt_21 : decode b_D_findsSpoilt 21 = .ok (.ifCond .ne 13, 3) := by decide +kernel
theorem d_D_findsSpoilt_24 : decode b_D_findsSpoilt 24 = .ok (.iload_n 2, 1) := by decide +kernel
theorem d_D_findsSpoilt_25 : decode b_D_findsSpoilt 25 = .ok (.ifCond .eq 7, 3) := by decide +kernel
theorem d_D_findsSpoilt_28 : decode b_D_findsSpoilt 28 = .ok (.iconst 1, 1) := by decide +kernel
theorem d_D_findsSpoilt_29 : decode b_D_findsSpoilt 29 = .ok (.goto 4, 3) := by decide +kernel
theorem d_D_findsSpoilt_32 : decode b_D_findsSpoilt 32 = .ok (.iconst 0, 1) := by decide +kernel
theorem d_D_findsSpoilt_33 : decode b_D_findsSpoilt 33 = .ok (.ireturn, 1) := by decide +kernel
theorem d_D_findsSpoilt_34 : decode b_D_findsSpoilt 34 = .ok (.iload_n 2, 1) := by decide +kernel
theorem d_D_findsSpoilt_35 : decode b_D_findsSpoilt 35 = .ok (.bipush 22, 2) := by decide +kernel
theorem d_D_findsSpoilt_37 : decode b_D_findsSpoilt 37 = .ok (.if_icmp .lt 5, 3) := by decide +kernel
theorem d_D_findsSpoilt_40 : decode b_D_findsSpoilt 40 = .ok (.iconst 1, 1) := by decide +kernel
theorem d_D_findsSpoilt_41 : decode b_D_findsSpoilt 41 = .ok (.ireturn, 1) := by decide +kernel
theorem d_D_findsSpoilt_42 : decode b_D_findsSpoilt 42 = .ok (.aload_n 0, 1) := by decide +kernel
theorem d_D_findsSpoilt_43 : decode b_D_findsSpoilt 43 = .ok (.getfield 9, 3) := by decide +kernel
theorem d_D_findsSpoilt_46 : decode b_D_findsSpoilt 46 = .ok (.iload_n 1, 1) := by decide +kernel
theorem d_D_findsSpoilt_47 : decode b_D_findsSpoilt 47 = .ok (.dup2, 1) := by decide +kernel
theorem d_D_findsSpoilt_48 : decode b_D_findsSpoilt 48 = .ok (.iaload, 1) := by decide +kernel
theorem d_D_findsSpoilt_49 : decode b_D_findsSpoilt 49 = .ok (.iconst 1, 1) := by decide +kernel
theorem d_D_findsSpoilt_50 : decode b_D_findsSpoilt 50 = .ok (.iload_n 2, 1) := by decide +kernel
theorem d_D_findsSpoilt_51 : decode b_D_findsSpoilt 51 = .ok (.ishl, 1) := by decide +kernel
theorem d_D_findsSpoilt_52 : decode b_D_findsSpoilt 52 = .ok (.ixor, 1) := by decide +kernel
theorem d_D_findsSpoilt_53 : decode b_D_findsSpoilt 53 = .ok (.iastore, 1) := by decide +kernel
theorem d_D_findsSpoilt_54 : decode b_D_findsSpoilt 54 = .ok (.aload_n 0, 1) := by decide +kernel
theorem d_D_findsSpoilt_55 : decode b_D_findsSpoilt 55 = .ok (.dup, 1) := by decide +kernel
theorem d_D_findsSpoilt_56 : decode b_D_findsSpoilt 56 = .ok (.getfield 39, 3) := by decide +kernel
theorem d_D_findsSpoilt_59 : decode b_D_findsSpoilt 59 = .ok (.iconst 1, 1) := by decide +kernel
theorem d_D_findsSpoilt_60 : decode b_D_findsSpoilt 60 = .ok (.iadd, 1) := by decide +kernel
theorem d_D_findsSpoilt_61 : decode b_D_findsSpoilt 61 = .ok (.putfield 39, 3) := by decide +kernel
theorem d_D_findsSpoilt_64 : decode b_D_findsSpoilt 64 = .ok (.iconst 0, 1) := by decide +kernel
theorem d_D_findsSpoilt_65 : decode b_D_findsSpoilt 65 = .ok (.ireturn, 1) := by decide +kernel
theorem d_D_blameLater_0 : decode b_D_blameLater 0 = .ok (.aload_n 0, 1) := by decide +kernel
theorem d_D_blameLater_1 : decode b_D_blameLater 1 = .ok (.iconst 1, 1) := by decide +kernel
theorem d_D_blameLater_2 : decode b_D_blameLater 2 = .ok (.putfield 48, 3) := by decide +kernel
theorem d_D_blameLater_5 : decode b_D_blameLater 5 = .ok (.aload_n 0, 1) := by decide +kernel
theorem d_D_blameLater_6 : decode b_D_blameLater 6 = .ok (.dup, 1) := by decide +kernel
theorem d_D_blameLater_7 : decode b_D_blameLater 7 = .ok (.getfield 42, 3) := by decide +kernel
theorem d_D_blameLater_10 : decode b_D_blameLater 10 = .ok (.iconst 1, 1) := by decide +kernel
theorem d_D_blameLater_11 : decode b_D_blameLater 11 = .ok (.iadd, 1) := by decide +kernel
theorem d_D_blameLater_12 : decode b_D_blameLater 12 = .ok (.putfield 42, 3) := by decide +kernel
theorem d_D_blameLater_15 : decode b_D_blameLater 15 = .ok (.return_, 1) := by decide +kernel
theorem d_D_takeBlame_0 : decode b_D_takeBlame 0 = .ok (.aload_n 0, 1) := by decide +kernel
theorem d_D_takeBlame_1 : decode b_D_takeBlame 1 = .ok (.dup, 1) := by decide +kernel
theorem d_D_takeBlame_2 : decode b_D_takeBlame 2 = .ok (.getfield 29, 3) := by decide +kernel
theorem d_D_takeBlame_5 : decode b_D_takeBlame 5 = .ok (.bipush 20, 2) := by decide +kernel
theorem d_D_takeBlame_7 : decode b_D_takeBlame 7 = .ok (.iadd, 1) := by decide +kernel
theorem d_D_takeBlame_8 : decode b_D_takeBlame 8 = .ok (.putfield 29, 3) := by decide +kernel
theorem d_D_takeBlame_11 : decode b_D_takeBlame 11 = .ok (.aload_n 0, 1) := by decide +kernel
theorem d_D_takeBlame_12 : decode b_D_takeBlame 12 = .ok (.aload_n 0, 1) := by decide +kernel
theorem d_D_takeBlame_13 : decode b_D_takeBlame 13 = .ok (.getfield 29, 3) := by decide +kernel
theorem d_D_takeBlame_16 : decode b_D_takeBlame 16 = .ok (.bipush 50, 2) := by decide +kernel
theorem d_D_takeBlame_18 : decode b_D_takeBlame 18 = .ok (.if_icmp .lt 7, 3) := by decide +kernel
theorem d_D_takeBlame_21 : decode b_D_takeBlame 21 = .ok (.iconst 2, 1) := by decide +kernel
theorem d_D_takeBlame_22 : decode b_D_takeBlame 22 = .ok (.goto 4, 3) := by decide +kernel
theorem d_D_takeBlame_25 : decode b_D_takeBlame 25 = .ok (.iconst 1, 1) := by decide +kernel
theorem d_D_takeBlame_26 : decode b_D_takeBlame 26 = .ok (.putfield 22, 3) := by decide +kernel
theorem d_D_takeBlame_29 : decode b_D_takeBlame 29 = .ok (.aload_n 0, 1) := by decide +kernel
theorem d_D_takeBlame_30 : decode b_D_takeBlame 30 = .ok (.iconst 0, 1) := by decide +kernel
theorem d_D_takeBlame_31 : decode b_D_takeBlame 31 = .ok (.putfield 26, 3) := by decide +kernel
theorem d_D_takeBlame_34 : decode b_D_takeBlame 34 = .ok (.return_, 1) := by decide +kernel
theorem d_D_copyNextFrom_0 : decode b_D_copyNextFrom 0 = .ok (.aload_n 0, 1) := by decide +kernel
theorem d_D_copyNextFrom_1 : decode b_D_copyNextFrom 1 = .ok (.getfield 26, 3) := by decide +kernel
theorem d_D_copyNextFrom_4 : decode b_D_copyNextFrom 4 = .ok (.bipush 32, 2) := by decide +kernel
theorem d_D_copyNextFrom_6 : decode b_D_copyNextFrom 6 = .ok (.if_icmp .ge 31, 3) := by decide +kernel
theorem d_D_copyNextFrom_9 : decode b_D_copyNextFrom 9 = .ok (.aload_n 0, 1) := by decide +kernel
theorem d_D_copyNextFrom_10 : decode b_D_copyNextFrom 10 = .ok (.getfield 9, 3) := by decide +kernel
theorem d_D_copyNextFrom_13 : decode b_D_copyNextFrom 13 = .ok (.aload_n 0, 1) := by decide +kernel
theorem d_D_copyNextFrom_14 : decode b_D_copyNextFrom 14 = .ok (.getfield 26, 3) := by decide +kernel
theorem d_D_copyNextFrom_17 : decode b_D_copyNextFrom 17 = .ok (.aload_n 1, 1) := by decide +kernel
theorem d_D_copyNextFrom_18 : decode b_D_copyNextFrom 18 = .ok (.getfield 9, 3) := by decide +kernel
theorem d_D_copyNextFrom_21 : decode b_D_copyNextFrom 21 = .ok (.aload_n 0, 1) := by decide +kernel
theorem d_D_copyNextFrom_22 : decode b_D_copyNextFrom 22 = .ok (.getfield 26, 3) := by decide +kernel
theorem d_D_copyNextFrom_25 : decode b_D_copyNextFrom 25 = .ok (.iaload, 1) := by decide +kernel
theorem d_D_copyNextFrom_26 : decode b_D_copyNextFrom 26 = .ok (.iastore, 1) := by decide +kernel
theorem d_D_copyNextFrom_27 : decode b_D_copyNextFrom 27 = .ok (.aload_n 0, 1) := by decide +kernel
theorem d_D_copyNextFrom_28 : decode b_D_copyNextFrom 28 = .ok (.dup, 1) := by decide +kernel
theorem d_D_copyNextFrom_29 : decode b_D_copyNextFrom 29 = .ok (.getfield 26, 3) := by decide +kernel
theorem d_D_copyNextFrom_32 : decode b_D_copyNextFrom 32 = .ok (.iconst 1, 1) := by decide +kernel
theorem d_D_copyNextFrom_33 : decode b_D_copyNextFrom 33 = .ok (.iadd, 1) := by decide +kernel
theorem d_D_copyNextFrom_34 : decode b_D_copyNextFrom 34 = .ok (.putfield 26, 3) := by decide +kernel
theorem d_D_copyNextFrom_37 : decode b_D_copyNextFrom 37 = .ok (.aload_n 0, 1) := by decide +kernel
theorem d_D_copyNextFrom_38 : decode b_D_copyNextFrom 38 = .ok (.getfield 26, 3) := by decide +kernel
theorem d_D_copyNextFrom_41 : decode b_D_copyNextFrom 41 = .ok (.bipush 32, 2) := by decide +kernel
theorem d_D_copyNextFrom_43 : decode b_D_copyNextFrom 43 = .ok (.if_icmp .ne 31, 3) := by decide +kernel
theorem d_D_copyNextFrom_46 : decode b_D_copyNextFrom 46 = .ok (.aload_n 1, 1) := by decide +kernel
theorem d_D_copyNextFrom_47 : decode b_D_copyNextFrom 47 = .ok (.getfield 66, 3) := by decide +kernel
theorem d_D_copyNextFrom_50 : decode b_D_copyNextFrom 50 = .ok (.iconst 0, 1) := by decide +kernel
theorem d_D_copyNextFrom_51 : decode b_D_copyNextFrom 51 = .ok (.aload_n 0, 1) := by decide +kernel
theorem d_D_copyNextFrom_52 : decode b_D_copyNextFrom 52 = .ok (.getfield 66, 3) := by decide +kernel
theorem d_D_copyNextFrom_55 : decode b_D_copyNextFrom 55 = .ok (.iconst 0, 1) := by decide +kernel
theorem d_D_copyNextFrom_56 : decode b_D_copyNextFrom 56 = .ok (.bipush 8, 2) := by decide +kernel
theorem d_D_copyNextFrom_58 : decode b_D_copyNextFrom 58 = .ok (.invokestatic 91, 3) := by decide +kernel
theorem d_D_copyNextFrom_61 : decode b_D_copyNextFrom 61 = .ok (.aload_n 0, 1) := by decide +kernel
theorem d_D_copyNextFrom_62 : decode b_D_copyNextFrom 62 = .ok (.aload_n 1, 1) := by decide +kernel
theorem d_D_copyNextFrom_63 : decode b_D_copyNextFrom 63 = .ok (.getfield 63, 3) := by decide +kernel
theorem d_D_copyNextFrom_66 : decode b_D_copyNextFrom 66 = .ok (.putfield 63, 3) := by decide +kernel
theorem d_D_copyNextFrom_69 : decode b_D_copyNextFrom 69 = .ok (.aload_n 0, 1) := by decide +kernel
theorem d_D_copyNextFrom_70 : decode b_D_copyNextFrom 70 = .ok (.iconst 0, 1) := by decide +kernel
theorem d_D_copyNextFrom_71 : decode b_D_copyNextFrom 71 = .ok (.putfield 22, 3) := by decide +kernel
theorem d_D_copyNextFrom_74 : decode b_D_copyNextFrom 74 = .ok (.return_, 1) := by decide +kernel
theorem d_N_init_0 : decode b_N_init 0 = .ok (.aload_n 0, 1) := by decide +kernel
theorem d_N_init_1 : decode b_N_init 1 = .ok (.invokespecial 1, 3) := by decide +kernel
theorem d_N_init_4 : decode b_N_init 4 = .ok (.aload_n 0, 1) := by decide +kernel
theorem d_N_init_5 : decode b_N_init 5 = .ok (.bipush 64, 2) := by decide +kernel
theorem d_N_init_7 : decode b_N_init 7 = .ok (.newarray .int, 2) := by decide +kernel
theorem d_N_init_9 : decode b_N_init 9 = .ok (.putfield 9, 3) := by decide +kernel
theorem d_N_init_12 : decode b_N_init 12 = .ok (.return_, 1) := by decide +kernel
theorem d_N_forget_0 : decode b_N_forget 0 = .ok (.aload_n 0, 1) := by decide +kernel
theorem d_N_forget_1 : decode b_N_forget 1 = .ok (.iconst 0, 1) := by decide +kernel
theorem d_N_forget_2 : decode b_N_forget 2 = .ok (.putfield 13, 3) := by decide +kernel
theorem d_N_forget_5 : decode b_N_forget 5 = .ok (.return_, 1) := by decide +kernel
theorem d_N_add_0 : decode b_N_add 0 = .ok (.aload_n 0, 1) := by decide +kernel
theorem d_N_add_1 : decode b_N_add 1 = .ok (.getfield 13, 3) := by decide +kernel
theorem d_N_add_4 : decode b_N_add 4 = .ok (.bipush 64, 2) := by decide +kernel
theorem d_N_add_6 : decode b_N_add 6 = .ok (.if_icmp .lt 5, 3) := by decide +kernel
theorem d_N_add_9 : decode b_N_add 9 = .ok (.iconst 0, 1) := by decide +kernel
theorem d_N_add_10 : decode b_N_add 10 = .ok (.ireturn, 1) := by decide +kernel
theorem d_N_add_11 : decode b_N_add 11 = .ok (.aload_n 0, 1) := by decide +kernel
theorem d_N_add_12 : decode b_N_add 12 = .ok (.getfield 9, 3) := by decide +kernel
theorem d_N_add_15 : decode b_N_add 15 = .ok (.aload_n 0, 1) := by decide +kernel
theorem d_N_add_16 : decode b_N_add 16 = .ok (.getfield 13, 3) := by decide +kernel
theorem d_N_add_19 : decode b_N_add 19 = .ok (.iload_n 1, 1) := by decide +kernel
theorem d_N_add_20 : decode b_N_add 20 = .ok (.iastore, 1) := by decide +kernel
theorem d_N_add_21 : decode b_N_add 21 = .ok (.aload_n 0, 1) := by decide +kernel
theorem d_N_add_22 : decode b_N_add 22 = .ok (.dup, 1) := by decide +kernel
theorem d_N_add_23 : decode b_N_add 23 = .ok (.getfield 13, 3) := by decide +kernel
theorem d_N_add_26 : decode b_N_add 26 = .ok (.iconst 1, 1) := by decide +kernel
theorem d_N_add_27 : decode b_N_add 27 = .ok (.iadd, 1) := by decide +kernel
theorem d_N_add_28 : decode b_N_add 28 = .ok (.putfield 13, 3) := by decide +kernel
theorem d_N_add_31 : decode b_N_add 31 = .ok (.iconst 1, 1) := by decide +kernel
theorem d_N_add_32 : decode b_N_add 32 = .ok (.ireturn, 1) := by decide +kernel
theorem d_N_wordAt_0 : decode b_N_wordAt 0 = .ok (.iload_n 1, 1) := by decide +kernel
theorem d_N_wordAt_1 : decode b_N_wordAt 1 = .ok (.ifCond .lt 20, 3) := by decide +kernel
theorem d_N_wordAt_4 : decode b_N_wordAt 4 = .ok (.iload_n 1, 1) := by decide +kernel
theorem d_N_wordAt_5 : decode b_N_wordAt 5 = .ok (.aload_n 0, 1) := by decide +kernel
theorem d_N_wordAt_6 : decode b_N_wordAt 6 = .ok (.getfield 13, 3) := by decide +kernel
theorem d_N_wordAt_9 : decode b_N_wordAt 9 = .ok (.if_icmp .ge 12, 3) := by decide +kernel
theorem d_N_wordAt_12 : decode b_N_wordAt 12 = .ok (.aload_n 0, 1) := by decide +kernel
theorem d_N_wordAt_13 : decode b_N_wordAt 13 = .ok (.getfield 9, 3) := by decide +kernel
theorem d_N_wordAt_16 : decode b_N_wordAt 16 = .ok (.iload_n 1, 1) := by decide +kernel
theorem d_N_wordAt_17 : decode b_N_wordAt 17 = .ok (.iaload, 1) := by decide +kernel
theorem d_N_wordAt_18 : decode b_N_wordAt 18 = .ok (.goto 4, 3) := by decide +kernel
theorem d_N_wordAt_21 : decode b_N_wordAt 21 = .ok (.iconst 0, 1) := by decide +kernel
theorem d_N_wordAt_22 : decode b_N_wordAt 22 = .ok (.ireturn, 1) := by decide +kernel
theorem d_O_init_0 : decode b_O_init 0 = .ok (.aload_n 0, 1) := by decide +kernel
theorem d_O_init_1 : decode b_O_init 1 = .ok (.invokespecial 1, 3) := by decide +kernel
theorem d_O_init_4 : decode b_O_init 4 = .ok (.aload_n 0, 1) := by decide +kernel
theorem d_O_init_5 : decode b_O_init 5 = .ok (.sipush 300, 3) := by decide +kernel
theorem d_O_init_8 : decode b_O_init 8 = .ok (.newarray .int, 2) := by decide +kernel
theorem d_O_init_10 : decode b_O_init 10 = .ok (.putfield 9, 3) := by decide +kernel
theorem d_O_init_13 : decode b_O_init 13 = .ok (.return_, 1) := by decide +kernel
theorem d_O_forget_0 : decode b_O_forget 0 = .ok (.aload_n 0, 1) := by decide +kernel
theorem d_O_forget_1 : decode b_O_forget 1 = .ok (.iconst 0, 1) := by decide +kernel
theorem d_O_forget_2 : decode b_O_forget 2 = .ok (.putfield 13, 3) := by decide +kernel
theorem d_O_forget_5 : decode b_O_forget 5 = .ok (.return_, 1) := by decide +kernel
theorem d_O_add_0 : decode b_O_add 0 = .ok (.aload_n 0, 1) := by decide +kernel
theorem d_O_add_1 : decode b_O_add 1 = .ok (.getfield 13, 3) := by decide +kernel
theorem d_O_add_4 : decode b_O_add 4 = .ok (.sipush 300, 3) := by decide +kernel
theorem d_O_add_7 : decode b_O_add 7 = .ok (.if_icmp .ge 13, 3) := by decide +kernel
theorem d_O_add_10 : decode b_O_add 10 = .ok (.aload_n 0, 1) := by decide +kernel
theorem d_O_add_11 : decode b_O_add 11 = .ok (.getfield 9, 3) := by decide +kernel
theorem d_O_add_14 : decode b_O_add 14 = .ok (.aload_n 0, 1) := by decide +kernel
theorem d_O_add_15 : decode b_O_add 15 = .ok (.getfield 13, 3) := by decide +kernel
theorem d_O_add_18 : decode b_O_add 18 = .ok (.iload_n 1, 1) := by decide +kernel
theorem d_O_add_19 : decode b_O_add 19 = .ok (.iastore, 1) := by decide +kernel
theorem d_O_add_20 : decode b_O_add 20 = .ok (.aload_n 0, 1) := by decide +kernel
theorem d_O_add_21 : decode b_O_add 21 = .ok (.dup, 1) := by decide +kernel
theorem d_O_add_22 : decode b_O_add 22 = .ok (.getfield 13, 3) := by decide +kernel
theorem d_O_add_25 : decode b_O_add 25 = .ok (.iconst 1, 1) := by decide +kernel
theorem d_O_add_26 : decode b_O_add 26 = .ok (.iadd, 1) := by decide +kernel
theorem d_O_add_27 : decode b_O_add 27 = .ok (.putfield 13, 3) := by decide +kernel
theorem d_O_add_30 : decode b_O_add 30 = .ok (.return_, 1) := by decide +kernel
theorem d_O_keeps_0 : decode b_O_keeps 0 = .ok (.iload_n 1, 1) := by decide +kernel
theorem d_O_keeps_1 : decode b_O_keeps 1 = .ok (.ifCond .lt 22, 3) := by decide +kernel
theorem d_O_keeps_4 : decode b_O_keeps 4 = .ok (.iload_n 1, 1) := by decide +kernel
theorem d_O_keeps_5 : decode b_O_keeps 5 = .ok (.aload_n 0, 1) := by decide +kernel
theorem d_O_keeps_6 : decode b_O_keeps 6 = .ok (.getfield 13, 3) := by decide +kernel
theorem d_O_keeps_9 : decode b_O_keeps 9 = .ok (.if_icmp .ge 14, 3) := by decide +kernel
theorem d_O_keeps_12 : decode b_O_keeps 12 = .ok (.iload_n 1, 1) := by decide +kernel
theorem d_O_keeps_13 : decode b_O_keeps 13 = .ok (.sipush 300, 3) := by decide +kernel
theorem d_O_keeps_16 : decode b_O_keeps 16 = .ok (.if_icmp .ge 7, 3) := by decide +kernel
theorem d_O_keeps_19 : decode b_O_keeps 19 = .ok (.iconst 1, 1) := by decide +kernel
theorem d_O_keeps_20 : decode b_O_keeps 20 = .ok (.goto 4, 3) := by decide +kernel
theorem d_O_keeps_23 : decode b_O_keeps 23 = .ok (.iconst 0, 1) := by decide +kernel
theorem d_O_keeps_24 : decode b_O_keeps 24 = .ok (.ireturn, 1) := by decide +kernel
theorem d_L_step_0 : decode b_L_step 0 = .ok (.aload_n 2, 1) := by decide +kernel
theorem d_L_step_1 : decode b_L_step 1 = .ok (.iconst 0, 1) := by decide +kernel
theorem d_L_step_2 : decode b_L_step 2 = .ok (.aload_n 0, 1) := by decide +kernel
theorem d_L_step_3 : decode b_L_step 3 = .ok (.iload_n 1, 1) := by decide +kernel
theorem d_L_step_4 : decode b_L_step 4 = .ok (.invokevirtual 7, 3) := by decide +kernel
theorem d_L_step_7 : decode b_L_step 7 = .ok (.i2l, 1) := by decide +kernel
theorem d_L_step_8 : decode b_L_step 8 = .ok (.lastore, 1) := by decide +kernel
theorem d_L_step_9 : decode b_L_step 9 = .ok (.goto 9, 3) := by decide +kernel
theorem d_L_step_12 : decode b_L_step 12 = .ok (.astore_n 3, 1) := by decide +kernel
theorem d_L_step_13 : decode b_L_step 13 = .ok (.iconst 1, 1) := by decide +kernel
theorem d_L_step_14 : decode b_L_step 14 = .ok (.ireturn, 1) := by decide +kernel
theorem d_L_step_15 : decode b_L_step 15 = .ok (.astore_n 3, 1) := by decide +kernel
theorem d_L_step_16 : decode b_L_step 16 = .ok (.iconst 2, 1) := by decide +kernel
theorem d_L_step_17 : decode b_L_step 17 = .ok (.ireturn, 1) := by decide +kernel
theorem d_L_step_18 : decode b_L_step 18 = .ok (.iconst 0, 1) := by decide +kernel
theorem d_L_step_19 : decode b_L_step 19 = .ok (.ireturn, 1) := by decide +kernel
theorem d_L_output_0 : decode b_L_output 0 = .ok (.aload_n 2, 1) := by decide +kernel
theorem d_L_output_1 : decode b_L_output 1 = .ok (.iconst 0, 1) := by decide +kernel
theorem d_L_output_2 : decode b_L_output 2 = .ok (.aload_n 0, 1) := by decide +kernel
theorem d_L_output_3 : decode b_L_output 3 = .ok (.iload_n 1, 1) := by decide +kernel
theorem d_L_output_4 : decode b_L_output 4 = .ok (.invokevirtual 17, 3) := by decide +kernel
theorem d_L_output_7 : decode b_L_output 7 = .ok (.i2l, 1) := by decide +kernel
theorem d_L_output_8 : decode b_L_output 8 = .ok (.lastore, 1) := by decide +kernel
theorem d_L_output_9 : decode b_L_output 9 = .ok (.goto 6, 3) := by decide +kernel
theorem d_L_output_12 : decode b_L_output 12 = .ok (.astore_n 3, 1) := by decide +kernel
theorem d_L_output_13 : decode b_L_output 13 = .ok (.iconst 1, 1) := by decide +kernel
theorem d_L_output_14 : decode b_L_output 14 = .ok (.ireturn, 1) := by decide +kernel
theorem d_L_output_15 : decode b_L_output 15 = .ok (.iconst 0, 1) := by decide +kernel
theorem d_L_output_16 : decode b_L_output 16 = .ok (.ireturn, 1) := by decide +kernel
theorem d_L_perfect_0 : decode b_L_perfect 0 = .ok (.aload_n 2, 1) := by decide +kernel
theorem d_L_perfect_1 : decode b_L_perfect 1 = .ok (.iconst 0, 1) := by decide +kernel
theorem d_L_perfect_2 : decode b_L_perfect 2 = .ok (.aload_n 0, 1) := by decide +kernel
theorem d_L_perfect_3 : decode b_L_perfect 3 = .ok (.iload_n 1, 1) := by decide +kernel
theorem d_L_perfect_4 : decode b_L_perfect 4 = .ok (.invokevirtual 22, 3) := by decide +kernel
theorem d_L_perfect_7 : decode b_L_perfect 7 = .ok (.i2l, 1) := by decide +kernel
theorem d_L_perfect_8 : decode b_L_perfect 8 = .ok (.lastore, 1) := by decide +kernel
theorem d_L_perfect_9 : decode b_L_perfect 9 = .ok (.goto 6, 3) := by decide +kernel
theorem d_L_perfect_12 : decode b_L_perfect 12 = .ok (.astore_n 3, 1) := by decide +kernel
theorem d_L_perfect_13 : decode b_L_perfect 13 = .ok (.iconst 1, 1) := by decide +kernel
theorem d_L_perfect_14 : decode b_L_perfect 14 = .ok (.ireturn, 1) := by decide +kernel
theorem d_L_perfect_15 : decode b_L_perfect 15 = .ok (.iconst 0, 1) := by decide +kernel
theorem d_L_perfect_16 : decode b_L_perfect 16 = .ok (.ireturn, 1) := by decide +kernel
theorem d_L_flip_0 : decode b_L_flip 0 = .ok (.aload_n 0, 1) := by decide +kernel
theorem d_L_flip_1 : decode b_L_flip 1 = .ok (.iload_n 1, 1) := by decide +kernel
theorem d_L_flip_2 : decode b_L_flip 2 = .ok (.iload_n 2, 1) := by decide +kernel
theorem d_L_flip_3 : decode b_L_flip 3 = .ok (.iload_n 3, 1) := by decide +kernel
theorem d_L_flip_4 : decode b_L_flip 4 = .ok (.iload 4, 2) := by decide +kernel
theorem d_L_flip_6 : decode b_L_flip 6 = .ok (.invokevirtual 25, 3) := by decide +kernel
theorem d_L_flip_9 : decode b_L_flip 9 = .ok (.goto 7, 3) := by decide +kernel
theorem d_L_flip_12 : decode b_L_flip 12 = .ok (.astore 5, 2) := by decide +kernel
theorem d_L_flip_14 : decode b_L_flip 14 = .ok (.iconst 1, 1) := by decide +kernel
theorem d_L_flip_15 : decode b_L_flip 15 = .ok (.ireturn, 1) := by decide +kernel
theorem d_L_flip_16 : decode b_L_flip 16 = .ok (.iconst 0, 1) := by decide +kernel
theorem d_L_flip_17 : decode b_L_flip 17 = .ok (.ireturn, 1) := by decide +kernel
theorem d_I_bitCount_0 : decode b_I_bitCount 0 = .ok (.iload_n 0, 1) := by decide +kernel
theorem d_I_bitCount_1 : decode b_I_bitCount 1 = .ok (.iload_n 0, 1) := by decide +kernel
theorem d_I_bitCount_2 : decode b_I_bitCount 2 = .ok (.iconst 1, 1) := by decide +kernel
theorem d_I_bitCount_3 : decode b_I_bitCount 3 = .ok (.iushr, 1) := by decide +kernel
theorem d_I_bitCount_4 : decode b_I_bitCount 4 = .ok (.ldc_w 265, 3) := by decide +kernel
theorem d_I_bitCount_7 : decode b_I_bitCount 7 = .ok (.iand, 1) := by decide +kernel
theorem d_I_bitCount_8 : decode b_I_bitCount 8 = .ok (.isub, 1) := by decide +kernel
theorem d_I_bitCount_9 : decode b_I_bitCount 9 = .ok (.istore_n 0, 1) := by decide +kernel
theorem d_I_bitCount_10 : decode b_I_bitCount 10 = .ok (.iload_n 0, 1) := by decide +kernel
theorem d_I_bitCount_11 : decode b_I_bitCount 11 = .ok (.ldc_w 266, 3) := by decide +kernel
theorem d_I_bitCount_14 : decode b_I_bitCount 14 = .ok (.iand, 1) := by decide +kernel
theorem d_I_bitCount_15 : decode b_I_bitCount 15 = .ok (.iload_n 0, 1) := by decide +kernel
theorem d_I_bitCount_16 : decode b_I_bitCount 16 = .ok (.iconst 2, 1) := by decide +kernel
theorem d_I_bitCount_17 : decode b_I_bitCount 17 = .ok (.iushr, 1) := by decide +kernel
theorem d_I_bitCount_18 : decode b_I_bitCount 18 = .ok (.ldc_w 266, 3) := by decide +kernel
theorem d_I_bitCount_21 : decode b_I_bitCount 21 = .ok (.iand, 1) := by decide +kernel
theorem d_I_bitCount_22 : decode b_I_bitCount 22 = .ok (.iadd, 1) := by decide +kernel
theorem d_I_bitCount_23 : decode b_I_bitCount 23 = .ok (.istore_n 0, 1) := by decide +kernel
theorem d_I_bitCount_24 : decode b_I_bitCount 24 = .ok (.iload_n 0, 1) := by decide +kernel
theorem d_I_bitCount_25 : decode b_I_bitCount 25 = .ok (.iload_n 0, 1) := by decide +kernel
theorem d_I_bitCount_26 : decode b_I_bitCount 26 = .ok (.iconst 4, 1) := by decide +kernel
theorem d_I_bitCount_27 : decode b_I_bitCount 27 = .ok (.iushr, 1) := by decide +kernel
theorem d_I_bitCount_28 : decode b_I_bitCount 28 = .ok (.iadd, 1) := by decide +kernel
theorem d_I_bitCount_29 : decode b_I_bitCount 29 = .ok (.ldc_w 267, 3) := by decide +kernel
theorem d_I_bitCount_32 : decode b_I_bitCount 32 = .ok (.iand, 1) := by decide +kernel
theorem d_I_bitCount_33 : decode b_I_bitCount 33 = .ok (.istore_n 0, 1) := by decide +kernel
theorem d_I_bitCount_34 : decode b_I_bitCount 34 = .ok (.iload_n 0, 1) := by decide +kernel
theorem d_I_bitCount_35 : decode b_I_bitCount 35 = .ok (.iload_n 0, 1) := by decide +kernel
theorem d_I_bitCount_36 : decode b_I_bitCount 36 = .ok (.bipush 8, 2) := by decide +kernel
theorem d_I_bitCount_38 : decode b_I_bitCount 38 = .ok (.iushr, 1) := by decide +kernel
theorem d_I_bitCount_39 : decode b_I_bitCount 39 = .ok (.iadd, 1) := by decide +kernel
theorem d_I_bitCount_40 : decode b_I_bitCount 40 = .ok (.istore_n 0, 1) := by decide +kernel
theorem d_I_bitCount_41 : decode b_I_bitCount 41 = .ok (.iload_n 0, 1) := by decide +kernel
theorem d_I_bitCount_42 : decode b_I_bitCount 42 = .ok (.iload_n 0, 1) := by decide +kernel
theorem d_I_bitCount_43 : decode b_I_bitCount 43 = .ok (.bipush 16, 2) := by decide +kernel
theorem d_I_bitCount_45 : decode b_I_bitCount 45 = .ok (.iushr, 1) := by decide +kernel
theorem d_I_bitCount_46 : decode b_I_bitCount 46 = .ok (.iadd, 1) := by decide +kernel
theorem d_I_bitCount_47 : decode b_I_bitCount 47 = .ok (.istore_n 0, 1) := by decide +kernel
theorem d_I_bitCount_48 : decode b_I_bitCount 48 = .ok (.iload_n 0, 1) := by decide +kernel
theorem d_I_bitCount_49 : decode b_I_bitCount 49 = .ok (.bipush 63, 2) := by decide +kernel
theorem d_I_bitCount_51 : decode b_I_bitCount 51 = .ok (.iand, 1) := by decide +kernel
theorem d_I_bitCount_52 : decode b_I_bitCount 52 = .ok (.ireturn, 1) := by decide +kernel
theorem d_L_law_0 : decode b_L_law 0 = .ok (.new 8, 3) := by decide +kernel
theorem d_L_law_3 : decode b_L_law 3 = .ok (.dup, 1) := by decide +kernel
theorem d_L_law_4 : decode b_L_law 4 = .ok (.invokespecial 29, 3) := by decide +kernel
theorem d_L_law_7 : decode b_L_law 7 = .ok (.astore_n 1, 1) := by decide +kernel
theorem d_L_law_8 : decode b_L_law 8 = .ok (.new 30, 3) := by decide +kernel
theorem d_L_law_11 : decode b_L_law 11 = .ok (.dup, 1) := by decide +kernel
theorem d_L_law_12 : decode b_L_law 12 = .ok (.invokespecial 32, 3) := by decide +kernel
theorem d_L_law_15 : decode b_L_law 15 = .ok (.astore_n 2, 1) := by decide +kernel
theorem d_L_law_16 : decode b_L_law 16 = .ok (.iconst 1, 1) := by decide +kernel
theorem d_L_law_17 : decode b_L_law 17 = .ok (.newarray .long, 2) := by decide +kernel
theorem d_L_law_19 : decode b_L_law 19 = .ok (.astore_n 3, 1) := by decide +kernel
theorem d_L_law_20 : decode b_L_law 20 = .ok (.iconst 0, 1) := by decide +kernel
theorem d_L_law_21 : decode b_L_law 21 = .ok (.istore 4, 2) := by decide +kernel
theorem d_L_law_23 : decode b_L_law 23 = .ok (.iload 4, 2) := by decide +kernel
theorem d_L_law_25 : decode b_L_law 25 = .ok (.aload_n 0, 1) := by decide +kernel
theorem d_L_law_26 : decode b_L_law 26 = .ok (.arraylength, 1) := by decide +kernel
theorem d_L_law_27 : decode b_L_law 27 = .ok (.iconst 5, 1) := by decide +kernel
theorem d_L_law_28 : decode b_L_law 28 = .ok (.isub, 1) := by decide +kernel
theorem d_L_law_29 : decode b_L_law 29 = .ok (.if_icmp .gt 587, 3) := by decide +kernel
theorem d_L_law_32 : decode b_L_law 32 = .ok (.aload_n 0, 1) := by decide +kernel
theorem d_L_law_33 : decode b_L_law 33 = .ok (.iload 4, 2) := by decide +kernel
theorem d_L_law_35 : decode b_L_law 35 = .ok (.iaload, 1) := by decide +kernel
theorem d_L_law_36 : decode b_L_law 36 = .ok (.bipush 15, 2) := by decide +kernel
theorem d_L_law_38 : decode b_L_law 38 = .ok (.iand, 1) := by decide +kernel
theorem d_L_law_39 : decode b_L_law 39 = .ok (.tableswitch 571 0 14 #[73, 110, 123, 151, 176, 204, 232, 293, 346, 371, 396, 435, 472, 509, 546], 73) := by decide +kernel
theorem d_L_law_112 : decode b_L_law 112 = .ok (.aload_n 1, 1) := by decide +kernel
theorem d_L_law_113 : decode b_L_law 113 = .ok (.aload_n 0, 1) := by decide +kernel
theorem d_L_law_114 : decode b_L_law 114 = .ok (.iload 4, 2) := by decide +kernel
theorem d_L_law_116 : decode b_L_law 116 = .ok (.iconst 1, 1) := by decide +kernel
theorem d_L_law_117 : decode b_L_law 117 = .ok (.iadd, 1) := by decide +kernel
theorem d_L_law_118 : decode b_L_law 118 = .ok (.iaload, 1) := by decide +kernel
theorem d_L_law_119 : decode b_L_law 119 = .ok (.aload_n 0, 1) := by decide +kernel
theorem d_L_law_120 : decode b_L_law 120 = .ok (.iload 4, 2) := by decide +kernel
theorem d_L_law_122 : decode b_L_law 122 = .ok (.iconst 2, 1) := by decide +kernel
theorem d_L_law_123 : decode b_L_law 123 = .ok (.iadd, 1) := by decide +kernel
theorem d_L_law_124 : decode b_L_law 124 = .ok (.iaload, 1) := by decide +kernel
theorem d_L_law_125 : decode b_L_law 125 = .ok (.invokevirtual 33, 3) := by decide +kernel
theorem d_L_law_128 : decode b_L_law 128 = .ok (.pop, 1) := by decide +kernel
theorem d_L_law_129 : decode b_L_law 129 = .ok (.aload_n 2, 1) := by decide +kernel
theorem d_L_law_130 : decode b_L_law 130 = .ok (.aload_n 0, 1) := by decide +kernel
theorem d_L_law_131 : decode b_L_law 131 = .ok (.iload 4, 2) := by decide +kernel
theorem d_L_law_133 : decode b_L_law 133 = .ok (.iconst 1, 1) := by decide +kernel
theorem d_L_law_134 : decode b_L_law 134 = .ok (.iadd, 1) := by decide +kernel
theorem d_L_law_135 : decode b_L_law 135 = .ok (.iaload, 1) := by decide +kernel
theorem d_L_law_136 : decode b_L_law 136 = .ok (.aload_n 0, 1) := by decide +kernel
theorem d_L_law_137 : decode b_L_law 137 = .ok (.iload 4, 2) := by decide +kernel
theorem d_L_law_139 : decode b_L_law 139 = .ok (.iconst 2, 1) := by decide +kernel
theorem d_L_law_140 : decode b_L_law 140 = .ok (.iadd, 1) := by decide +kernel
theorem d_L_law_141 : decode b_L_law 141 = .ok (.iaload, 1) := by decide +kernel
theorem d_L_law_142 : decode b_L_law 142 = .ok (.invokevirtual 37, 3) := by decide +kernel
theorem d_L_law_145 : decode b_L_law 145 = .ok (.pop, 1) := by decide +kernel
theorem d_L_law_146 : decode b_L_law 146 = .ok (.goto 464, 3) := by decide +kernel
theorem d_L_law_149 : decode b_L_law 149 = .ok (.aload_n 1, 1) := by decide +kernel
theorem d_L_law_150 : decode b_L_law 150 = .ok (.invokevirtual 38, 3) := by decide +kernel
theorem d_L_law_153 : decode b_L_law 153 = .ok (.pop, 1) := by decide +kernel
theorem d_L_law_154 : decode b_L_law 154 = .ok (.aload_n 2, 1) := by decide +kernel
theorem d_L_law_155 : decode b_L_law 155 = .ok (.invokevirtual 42, 3) := by decide +kernel
theorem d_L_law_158 : decode b_L_law 158 = .ok (.pop, 1) := by decide +kernel
theorem d_L_law_159 : decode b_L_law 159 = .ok (.goto 451, 3) := by decide +kernel
theorem d_L_law_162 : decode b_L_law 162 = .ok (.aload_n 1, 1) := by decide +kernel
theorem d_L_law_163 : decode b_L_law 163 = .ok (.aload_n 0, 1) := by decide +kernel
theorem d_L_law_164 : decode b_L_law 164 = .ok (.iload 4, 2) := by decide +kernel
theorem d_L_law_166 : decode b_L_law 166 = .ok (.iconst 1, 1) := by decide +kernel
theorem d_L_law_167 : decode b_L_law 167 = .ok (.iadd, 1) := by decide +kernel
theorem d_L_law_168 : decode b_L_law 168 = .ok (.iaload, 1) := by decide +kernel
theorem d_L_law_169 : decode b_L_law 169 = .ok (.aload_n 3, 1) := by decide +kernel
theorem d_L_law_170 : decode b_L_law 170 = .ok (.invokestatic 43, 3) := by decide +kernel
theorem d_L_law_173 : decode b_L_law 173 = .ok (.istore 5, 2) := by decide +kernel
theorem d_L_law_175 : decode b_L_law 175 = .ok (.aload_n 2, 1) := by decide +kernel
theorem d_L_law_176 : decode b_L_law 176 = .ok (.aload_n 0, 1) := by decide +kernel
theorem d_L_law_177 : decode b_L_law 177 = .ok (.iload 4, 2) := by decide +kernel
theorem d_L_law_179 : decode b_L_law 179 = .ok (.iconst 1, 1) := by decide +kernel
theorem d_L_law_180 : decode b_L_law 180 = .ok (.iadd, 1) := by decide +kernel
theorem d_L_law_181 : decode b_L_law 181 = .ok (.iaload, 1) := by decide +kernel
theorem d_L_law_182 : decode b_L_law 182 = .ok (.invokevirtual 48, 3) := by decide +kernel
theorem d_L_law_185 : decode b_L_law 185 = .ok (.istore 6, 2) := by decide +kernel
theorem d_L_law_187 : decode b_L_law 187 = .ok (.goto 423, 3) := by decide +kernel
theorem d_L_law_190 : decode b_L_law 190 = .ok (.aload_n 1, 1) := by decide +kernel
theorem d_L_law_191 : decode b_L_law 191 = .ok (.aload_n 0, 1) := by decide +kernel
theorem d_L_law_192 : decode b_L_law 192 = .ok (.iload 4, 2) := by decide +kernel
theorem d_L_law_194 : decode b_L_law 194 = .ok (.iconst 1, 1) := by decide +kernel
theorem d_L_law_195 : decode b_L_law 195 = .ok (.iadd, 1) := by decide +kernel
theorem d_L_law_196 : decode b_L_law 196 = .ok (.iaload, 1) := by decide +kernel
theorem d_L_law_197 : decode b_L_law 197 = .ok (.invokevirtual 49, 3) := by decide +kernel
theorem d_L_law_200 : decode b_L_law 200 = .ok (.pop, 1) := by decide +kernel
theorem d_L_law_201 : decode b_L_law 201 = .ok (.aload_n 2, 1) := by decide +kernel
theorem d_L_law_202 : decode b_L_law 202 = .ok (.aload_n 0, 1) := by decide +kernel
theorem d_L_law_203 : decode b_L_law 203 = .ok (.iload 4, 2) := by decide +kernel
theorem d_L_law_205 : decode b_L_law 205 = .ok (.iconst 1, 1) := by decide +kernel
theorem d_L_law_206 : decode b_L_law 206 = .ok (.iadd, 1) := by decide +kernel
theorem d_L_law_207 : decode b_L_law 207 = .ok (.iaload, 1) := by decide +kernel
theorem d_L_law_208 : decode b_L_law 208 = .ok (.invokevirtual 53, 3) := by decide +kernel
theorem d_L_law_211 : decode b_L_law 211 = .ok (.pop, 1) := by decide +kernel
theorem d_L_law_212 : decode b_L_law 212 = .ok (.goto 398, 3) := by decide +kernel
theorem d_L_law_215 : decode b_L_law 215 = .ok (.aload_n 1, 1) := by decide +kernel
theorem d_L_law_216 : decode b_L_law 216 = .ok (.aload_n 0, 1) := by decide +kernel
theorem d_L_law_217 : decode b_L_law 217 = .ok (.iload 4, 2) := by decide +kernel
theorem d_L_law_219 : decode b_L_law 219 = .ok (.iconst 1, 1) := by decide +kernel
theorem d_L_law_220 : decode b_L_law 220 = .ok (.iadd, 1) := by decide +kernel
theorem d_L_law_221 : decode b_L_law 221 = .ok (.iaload, 1) := by decide +kernel
theorem d_L_law_222 : decode b_L_law 222 = .ok (.aload_n 3, 1) := by decide +kernel
theorem d_L_law_223 : decode b_L_law 223 = .ok (.invokestatic 54, 3) := by decide +kernel
theorem d_L_law_226 : decode b_L_law 226 = .ok (.istore 5, 2) := by decide +kernel
theorem d_L_law_228 : decode b_L_law 228 = .ok (.aload_n 2, 1) := by decide +kernel
theorem d_L_law_229 : decode b_L_law 229 = .ok (.aload_n 0, 1) := by decide +kernel
theorem d_L_law_230 : decode b_L_law 230 = .ok (.iload 4, 2) := by decide +kernel
theorem d_L_law_232 : decode b_L_law 232 = .ok (.iconst 1, 1) := by decide +kernel
theorem d_L_law_233 : decode b_L_law 233 = .ok (.iadd, 1) := by decide +kernel
theorem d_L_law_234 : decode b_L_law 234 = .ok (.iaload, 1) := by decide +kernel
theorem d_L_law_235 : decode b_L_law 235 = .ok (.invokevirtual 56, 3) := by decide +kernel
theorem d_L_law_238 : decode b_L_law 238 = .ok (.istore 6, 2) := by decide +kernel
theorem d_L_law_240 : decode b_L_law 240 = .ok (.goto 370, 3) := by decide +kernel
theorem d_L_law_243 : decode b_L_law 243 = .ok (.aload_n 1, 1) := by decide +kernel
theorem d_L_law_244 : decode b_L_law 244 = .ok (.aload_n 0, 1) := by decide +kernel
theorem d_L_law_245 : decode b_L_law 245 = .ok (.iload 4, 2) := by decide +kernel
theorem d_L_law_247 : decode b_L_law 247 = .ok (.iconst 1, 1) := by decide +kernel
theorem d_L_law_248 : decode b_L_law 248 = .ok (.iadd, 1) := by decide +kernel
theorem d_L_law_249 : decode b_L_law 249 = .ok (.iaload, 1) := by decide +kernel
theorem d_L_law_250 : decode b_L_law 250 = .ok (.aload_n 3, 1) := by decide +kernel
theorem d_L_law_251 : decode b_L_law 251 = .ok (.invokestatic 57, 3) := by decide +kernel
theorem d_L_law_254 : decode b_L_law 254 = .ok (.istore 5, 2) := by decide +kernel
theorem d_L_law_256 : decode b_L_law 256 = .ok (.aload_n 2, 1) := by decide +kernel
theorem d_L_law_257 : decode b_L_law 257 = .ok (.aload_n 0, 1) := by decide +kernel
theorem d_L_law_258 : decode b_L_law 258 = .ok (.iload 4, 2) := by decide +kernel
theorem d_L_law_260 : decode b_L_law 260 = .ok (.iconst 1, 1) := by decide +kernel
theorem d_L_law_261 : decode b_L_law 261 = .ok (.iadd, 1) := by decide +kernel
theorem d_L_law_262 : decode b_L_law 262 = .ok (.iaload, 1) := by decide +kernel
theorem d_L_law_263 : decode b_L_law 263 = .ok (.invokevirtual 59, 3) := by decide +kernel
theorem d_L_law_266 : decode b_L_law 266 = .ok (.istore 6, 2) := by decide +kernel
theorem d_L_law_268 : decode b_L_law 268 = .ok (.goto 342, 3) := by decide +kernel
theorem d_L_law_271 : decode b_L_law 271 = .ok (.aload_n 1, 1) := by decide +kernel
theorem d_L_law_272 : decode b_L_law 272 = .ok (.aload_n 0, 1) := by decide +kernel
theorem d_L_law_273 : decode b_L_law 273 = .ok (.iload 4, 2) := by decide +kernel
theorem d_L_law_275 : decode b_L_law 275 = .ok (.iconst 1, 1) := by decide +kernel
theorem d_L_law_276 : decode b_L_law 276 = .ok (.iadd, 1) := by decide +kernel
theorem d_L_law_277 : decode b_L_law 277 = .ok (.iaload, 1) := by decide +kernel
theorem d_L_law_278 : decode b_L_law 278 = .ok (.aload_n 0, 1) := by decide +kernel
theorem d_L_law_279 : decode b_L_law 279 = .ok (.iload 4, 2) := by decide +kernel
theorem d_L_law_281 : decode b_L_law 281 = .ok (.iconst 2, 1) := by decide +kernel
theorem d_L_law_282 : decode b_L_law 282 = .ok (.iadd, 1) := by decide +kernel
theorem d_L_law_283 : decode b_L_law 283 = .ok (.iaload, 1) := by decide +kernel
theorem d_L_law_284 : decode b_L_law 284 = .ok (.aload_n 0, 1) := by decide +kernel
theorem d_L_law_285 : decode b_L_law 285 = .ok (.iload 4, 2) := by decide +kernel
theorem d_L_law_287 : decode b_L_law 287 = .ok (.iconst 3, 1) := by decide +kernel
theorem d_L_law_288 : decode b_L_law 288 = .ok (.iadd, 1) := by decide +kernel
theorem d_L_law_289 : decode b_L_law 289 = .ok (.iaload, 1) := by decide +kernel
theorem d_L_law_290 : decode b_L_law 290 = .ok (.aload_n 0, 1) := by decide +kernel
theorem d_L_law_291 : decode b_L_law 291 = .ok (.iload 4, 2) := by decide +kernel
theorem d_L_law_293 : decode b_L_law 293 = .ok (.iconst 4, 1) := by decide +kernel
theorem d_L_law_294 : decode b_L_law 294 = .ok (.iadd, 1) := by decide +kernel
theorem d_L_law_295 : decode b_L_law 295 = .ok (.iaload, 1) := by decide +kernel
theorem d_L_law_296 : decode b_L_law 296 = .ok (.invokestatic 60, 3) := by decide +kernel
theorem d_L_law_299 : decode b_L_law 299 = .ok (.istore 5, 2) := by decide +kernel
theorem d_L_law_301 : decode b_L_law 301 = .ok (.aload_n 2, 1) := by decide +kernel
theorem d_L_law_302 : decode b_L_law 302 = .ok (.aload_n 0, 1) := by decide +kernel
theorem d_L_law_303 : decode b_L_law 303 = .ok (.iload 4, 2) := by decide +kernel
theorem d_L_law_305 : decode b_L_law 305 = .ok (.iconst 1, 1) := by decide +kernel
theorem d_L_law_306 : decode b_L_law 306 = .ok (.iadd, 1) := by decide +kernel
theorem d_L_law_307 : decode b_L_law 307 = .ok (.iaload, 1) := by decide +kernel
theorem d_L_law_308 : decode b_L_law 308 = .ok (.aload_n 0, 1) := by decide +kernel
theorem d_L_law_309 : decode b_L_law 309 = .ok (.iload 4, 2) := by decide +kernel
theorem d_L_law_311 : decode b_L_law 311 = .ok (.iconst 2, 1) := by decide +kernel
theorem d_L_law_312 : decode b_L_law 312 = .ok (.iadd, 1) := by decide +kernel
theorem d_L_law_313 : decode b_L_law 313 = .ok (.iaload, 1) := by decide +kernel
theorem d_L_law_314 : decode b_L_law 314 = .ok (.aload_n 0, 1) := by decide +kernel
theorem d_L_law_315 : decode b_L_law 315 = .ok (.iload 4, 2) := by decide +kernel
theorem d_L_law_317 : decode b_L_law 317 = .ok (.iconst 3, 1) := by decide +kernel
theorem d_L_law_318 : decode b_L_law 318 = .ok (.iadd, 1) := by decide +kernel
theorem d_L_law_319 : decode b_L_law 319 = .ok (.iaload, 1) := by decide +kernel
theorem d_L_law_320 : decode b_L_law 320 = .ok (.aload_n 0, 1) := by decide +kernel
theorem d_L_law_321 : decode b_L_law 321 = .ok (.iload 4, 2) := by decide +kernel
theorem d_L_law_323 : decode b_L_law 323 = .ok (.iconst 4, 1) := by decide +kernel
theorem d_L_law_324 : decode b_L_law 324 = .ok (.iadd, 1) := by decide +kernel
theorem d_L_law_325 : decode b_L_law 325 = .ok (.iaload, 1) := by decide +kernel
theorem d_L_law_326 : decode b_L_law 326 = .ok (.invokevirtual 63, 3) := by decide +kernel
theorem d_L_law_329 : decode b_L_law 329 = .ok (.goto 281, 3) := by decide +kernel
theorem d_L_law_332 : decode b_L_law 332 = .ok (.aload_n 1, 1) := by decide +kernel
theorem d_L_law_333 : decode b_L_law 333 = .ok (.aload_n 0, 1) := by decide +kernel
theorem d_L_law_334 : decode b_L_law 334 = .ok (.iload 4, 2) := by decide +kernel
theorem d_L_law_336 : decode b_L_law 336 = .ok (.iconst 1, 1) := by decide +kernel
theorem d_L_law_337 : decode b_L_law 337 = .ok (.iadd, 1) := by decide +kernel
theorem d_L_law_338 : decode b_L_law 338 = .ok (.iaload, 1) := by decide +kernel
theorem d_L_law_339 : decode b_L_law 339 = .ok (.aload_n 0, 1) := by decide +kernel
theorem d_L_law_340 : decode b_L_law 340 = .ok (.iload 4, 2) := by decide +kernel
theorem d_L_law_342 : decode b_L_law 342 = .ok (.iconst 2, 1) := by decide +kernel
theorem d_L_law_343 : decode b_L_law 343 = .ok (.iadd, 1) := by decide +kernel
theorem d_L_law_344 : decode b_L_law 344 = .ok (.iaload, 1) := by decide +kernel
theorem d_L_law_345 : decode b_L_law 345 = .ok (.ifCond .eq 7, 3) := by decide +kernel
theorem d_L_law_348 : decode b_L_law 348 = .ok (.iconst 1, 1) := by decide +kernel
theorem d_L_law_349 : decode b_L_law 349 = .ok (.goto 4, 3) := by decide +kernel
theorem d_L_law_352 : decode b_L_law 352 = .ok (.iconst 0, 1) := by decide +kernel
theorem d_L_law_353 : decode b_L_law 353 = .ok (.invokevirtual 64, 3) := by decide +kernel
theorem d_L_law_356 : decode b_L_law 356 = .ok (.pop, 1) := by decide +kernel
theorem d_L_law_357 : decode b_L_law 357 = .ok (.aload_n 2, 1) := by decide +kernel
theorem d_L_law_358 : decode b_L_law 358 = .ok (.aload_n 0, 1) := by decide +kernel
theorem d_L_law_359 : decode b_L_law 359 = .ok (.iload 4, 2) := by decide +kernel
theorem d_L_law_361 : decode b_L_law 361 = .ok (.iconst 1, 1) := by decide +kernel
theorem d_L_law_362 : decode b_L_law 362 = .ok (.iadd, 1) := by decide +kernel
theorem d_L_law_363 : decode b_L_law 363 = .ok (.iaload, 1) := by decide +kernel
theorem d_L_law_364 : decode b_L_law 364 = .ok (.aload_n 0, 1) := by decide +kernel
theorem d_L_law_365 : decode b_L_law 365 = .ok (.iload 4, 2) := by decide +kernel
theorem d_L_law_367 : decode b_L_law 367 = .ok (.iconst 2, 1) := by decide +kernel
theorem d_L_law_368 : decode b_L_law 368 = .ok (.iadd, 1) := by decide +kernel
theorem d_L_law_369 : decode b_L_law 369 = .ok (.iaload, 1) := by decide +kernel
theorem d_L_law_370 : decode b_L_law 370 = .ok (.ifCond .eq 7, 3) := by decide +kernel
theorem d_L_law_373 : decode b_L_law 373 = .ok (.iconst 1, 1) := by decide +kernel
theorem d_L_law_374 : decode b_L_law 374 = .ok (.goto 4, 3) := by decide +kernel
theorem d_L_law_377 : decode b_L_law 377 = .ok (.iconst 0, 1) := by decide +kernel
theorem d_L_law_378 : decode b_L_law 378 = .ok (.invokevirtual 68, 3) := by decide +kernel
theorem d_L_law_381 : decode b_L_law 381 = .ok (.pop, 1) := by decide +kernel
theorem d_L_law_382 : decode b_L_law 382 = .ok (.goto 228, 3) := by decide +kernel
theorem d_L_law_385 : decode b_L_law 385 = .ok (.aload_n 1, 1) := by decide +kernel
theorem d_L_law_386 : decode b_L_law 386 = .ok (.aload_n 0, 1) := by decide +kernel
theorem d_L_law_387 : decode b_L_law 387 = .ok (.iload 4, 2) := by decide +kernel
theorem d_L_law_389 : decode b_L_law 389 = .ok (.iconst 1, 1) := by decide +kernel
theorem d_L_law_390 : decode b_L_law 390 = .ok (.iadd, 1) := by decide +kernel
theorem d_L_law_391 : decode b_L_law 391 = .ok (.iaload, 1) := by decide +kernel
theorem d_L_law_392 : decode b_L_law 392 = .ok (.invokevirtual 69, 3) := by decide +kernel
theorem d_L_law_395 : decode b_L_law 395 = .ok (.pop, 1) := by decide +kernel
theorem d_L_law_396 : decode b_L_law 396 = .ok (.aload_n 2, 1) := by decide +kernel
theorem d_L_law_397 : decode b_L_law 397 = .ok (.aload_n 0, 1) := by decide +kernel
theorem d_L_law_398 : decode b_L_law 398 = .ok (.iload 4, 2) := by decide +kernel
theorem d_L_law_400 : decode b_L_law 400 = .ok (.iconst 1, 1) := by decide +kernel
theorem d_L_law_401 : decode b_L_law 401 = .ok (.iadd, 1) := by decide +kernel
theorem d_L_law_402 : decode b_L_law 402 = .ok (.iaload, 1) := by decide +kernel
theorem d_L_law_403 : decode b_L_law 403 = .ok (.invokevirtual 72, 3) := by decide +kernel
theorem d_L_law_406 : decode b_L_law 406 = .ok (.pop, 1) := by decide +kernel
theorem d_L_law_407 : decode b_L_law 407 = .ok (.goto 203, 3) := by decide +kernel
theorem d_L_law_410 : decode b_L_law 410 = .ok (.aload_n 1, 1) := by decide +kernel
theorem d_L_law_411 : decode b_L_law 411 = .ok (.aload_n 0, 1) := by decide +kernel
theorem d_L_law_412 : decode b_L_law 412 = .ok (.iload 4, 2) := by decide +kernel
theorem d_L_law_414 : decode b_L_law 414 = .ok (.iconst 1, 1) := by decide +kernel
theorem d_L_law_415 : decode b_L_law 415 = .ok (.iadd, 1) := by decide +kernel
theorem d_L_law_416 : decode b_L_law 416 = .ok (.iaload, 1) := by decide +kernel
theorem d_L_law_417 : decode b_L_law 417 = .ok (.invokevirtual 73, 3) := by decide +kernel
theorem d_L_law_420 : decode b_L_law 420 = .ok (.pop, 1) := by decide +kernel
theorem d_L_law_421 : decode b_L_law 421 = .ok (.aload_n 2, 1) := by decide +kernel
theorem d_L_law_422 : decode b_L_law 422 = .ok (.aload_n 0, 1) := by decide +kernel
theorem d_L_law_423 : decode b_L_law 423 = .ok (.iload 4, 2) := by decide +kernel
theorem d_L_law_425 : decode b_L_law 425 = .ok (.iconst 1, 1) := by decide +kernel
theorem d_L_law_426 : decode b_L_law 426 = .ok (.iadd, 1) := by decide +kernel
theorem d_L_law_427 : decode b_L_law 427 = .ok (.iaload, 1) := by decide +kernel
theorem d_L_law_428 : decode b_L_law 428 = .ok (.invokevirtual 76, 3) := by decide +kernel
theorem d_L_law_431 : decode b_L_law 431 = .ok (.pop, 1) := by decide +kernel
theorem d_L_law_432 : decode b_L_law 432 = .ok (.goto 178, 3) := by decide +kernel
theorem d_L_law_435 : decode b_L_law 435 = .ok (.aload_n 1, 1) := by decide +kernel
theorem d_L_law_436 : decode b_L_law 436 = .ok (.aload_n 0, 1) := by decide +kernel
theorem d_L_law_437 : decode b_L_law 437 = .ok (.iload 4, 2) := by decide +kernel
theorem d_L_law_439 : decode b_L_law 439 = .ok (.iconst 1, 1) := by decide +kernel
theorem d_L_law_440 : decode b_L_law 440 = .ok (.iadd, 1) := by decide +kernel
theorem d_L_law_441 : decode b_L_law 441 = .ok (.iaload, 1) := by decide +kernel
theorem d_L_law_442 : decode b_L_law 442 = .ok (.ifCond .eq 7, 3) := by decide +kernel
theorem d_L_law_445 : decode b_L_law 445 = .ok (.iconst 1, 1) := by decide +kernel
theorem d_L_law_446 : decode b_L_law 446 = .ok (.goto 4, 3) := by decide +kernel
theorem d_L_law_449 : decode b_L_law 449 = .ok (.iconst 0, 1) := by decide +kernel
theorem d_L_law_450 : decode b_L_law 450 = .ok (.invokevirtual 77, 3) := by decide +kernel
theorem d_L_law_453 : decode b_L_law 453 = .ok (.aload_n 2, 1) := by decide +kernel
theorem d_L_law_454 : decode b_L_law 454 = .ok (.aload_n 0, 1) := by decide +kernel
theorem d_L_law_455 : decode b_L_law 455 = .ok (.iload 4, 2) := by decide +kernel
theorem d_L_law_457 : decode b_L_law 457 = .ok (.iconst 1, 1) := by decide +kernel
theorem d_L_law_458 : decode b_L_law 458 = .ok (.iadd, 1) := by decide +kernel
theorem d_L_law_459 : decode b_L_law 459 = .ok (.iaload, 1) := by decide +kernel
theorem d_L_law_460 : decode b_L_law 460 = .ok (.ifCond .eq 7, 3) := by decide +kernel
theorem d_L_law_463 : decode b_L_law 463 = .ok (.iconst 1, 1) := by decide +kernel
theorem d_L_law_464 : decode b_L_law 464 = .ok (.goto 4, 3) := by decide +kernel
theorem d_L_law_467 : decode b_L_law 467 = .ok (.iconst 0, 1) := by decide +kernel
theorem d_L_law_468 : decode b_L_law 468 = .ok (.invokevirtual 81, 3) := by decide +kernel
theorem d_L_law_471 : decode b_L_law 471 = .ok (.goto 139, 3) := by decide +kernel
theorem d_L_law_474 : decode b_L_law 474 = .ok (.aload_n 1, 1) := by decide +kernel
theorem d_L_law_475 : decode b_L_law 475 = .ok (.aload_n 0, 1) := by decide +kernel
theorem d_L_law_476 : decode b_L_law 476 = .ok (.iload 4, 2) := by decide +kernel
theorem d_L_law_478 : decode b_L_law 478 = .ok (.iconst 1, 1) := by decide +kernel
theorem d_L_law_479 : decode b_L_law 479 = .ok (.iadd, 1) := by decide +kernel
theorem d_L_law_480 : decode b_L_law 480 = .ok (.iaload, 1) := by decide +kernel
theorem d_L_law_481 : decode b_L_law 481 = .ok (.aload_n 0, 1) := by decide +kernel
theorem d_L_law_482 : decode b_L_law 482 = .ok (.iload 4, 2) := by decide +kernel
theorem d_L_law_484 : decode b_L_law 484 = .ok (.iconst 2, 1) := by decide +kernel
theorem d_L_law_485 : decode b_L_law 485 = .ok (.iadd, 1) := by decide +kernel
theorem d_L_law_486 : decode b_L_law 486 = .ok (.iaload, 1) := by decide +kernel
theorem d_L_law_487 : decode b_L_law 487 = .ok (.invokevirtual 82, 3) := by decide +kernel
theorem d_L_law_490 : decode b_L_law 490 = .ok (.aload_n 2, 1) := by decide +kernel
theorem d_L_law_491 : decode b_L_law 491 = .ok (.aload_n 0, 1) := by decide +kernel
theorem d_L_law_492 : decode b_L_law 492 = .ok (.iload 4, 2) := by decide +kernel
theorem d_L_law_494 : decode b_L_law 494 = .ok (.iconst 1, 1) := by decide +kernel
theorem d_L_law_495 : decode b_L_law 495 = .ok (.iadd, 1) := by decide +kernel
theorem d_L_law_496 : decode b_L_law 496 = .ok (.iaload, 1) := by decide +kernel
theorem d_L_law_497 : decode b_L_law 497 = .ok (.aload_n 0, 1) := by decide +kernel
theorem d_L_law_498 : decode b_L_law 498 = .ok (.iload 4, 2) := by decide +kernel
theorem d_L_law_500 : decode b_L_law 500 = .ok (.iconst 2, 1) := by decide +kernel
theorem d_L_law_501 : decode b_L_law 501 = .ok (.iadd, 1) := by decide +kernel
theorem d_L_law_502 : decode b_L_law 502 = .ok (.iaload, 1) := by decide +kernel
theorem d_L_law_503 : decode b_L_law 503 = .ok (.invokevirtual 86, 3) := by decide +kernel
theorem d_L_law_506 : decode b_L_law 506 = .ok (.if_icmp .eq 104, 3) := by decide +kernel
theorem d_L_law_509 : decode b_L_law 509 = .ok (.iconst 0, 1) := by decide +kernel
theorem d_L_law_510 : decode b_L_law 510 = .ok (.ireturn, 1) := by decide +kernel
theorem d_L_law_511 : decode b_L_law 511 = .ok (.aload_n 1, 1) := by decide +kernel
theorem d_L_law_512 : decode b_L_law 512 = .ok (.aload_n 0, 1) := by decide +kernel
theorem d_L_law_513 : decode b_L_law 513 = .ok (.iload 4, 2) := by decide +kernel
theorem d_L_law_515 : decode b_L_law 515 = .ok (.iconst 1, 1) := by decide +kernel
theorem d_L_law_516 : decode b_L_law 516 = .ok (.iadd, 1) := by decide +kernel
theorem d_L_law_517 : decode b_L_law 517 = .ok (.iaload, 1) := by decide +kernel
theorem d_L_law_518 : decode b_L_law 518 = .ok (.aload_n 0, 1) := by decide +kernel
theorem d_L_law_519 : decode b_L_law 519 = .ok (.iload 4, 2) := by decide +kernel
theorem d_L_law_521 : decode b_L_law 521 = .ok (.iconst 2, 1) := by decide +kernel
theorem d_L_law_522 : decode b_L_law 522 = .ok (.iadd, 1) := by decide +kernel
theorem d_L_law_523 : decode b_L_law 523 = .ok (.iaload, 1) := by decide +kernel
theorem d_L_law_524 : decode b_L_law 524 = .ok (.invokevirtual 87, 3) := by decide +kernel
theorem d_L_law_527 : decode b_L_law 527 = .ok (.pop, 1) := by decide +kernel
theorem d_L_law_528 : decode b_L_law 528 = .ok (.aload_n 2, 1) := by decide +kernel
theorem d_L_law_529 : decode b_L_law 529 = .ok (.aload_n 0, 1) := by decide +kernel
theorem d_L_law_530 : decode b_L_law 530 = .ok (.iload 4, 2) := by decide +kernel
theorem d_L_law_532 : decode b_L_law 532 = .ok (.iconst 1, 1) := by decide +kernel
theorem d_L_law_533 : decode b_L_law 533 = .ok (.iadd, 1) := by decide +kernel
theorem d_L_law_534 : decode b_L_law 534 = .ok (.iaload, 1) := by decide +kernel
theorem d_L_law_535 : decode b_L_law 535 = .ok (.aload_n 0, 1) := by decide +kernel
theorem d_L_law_536 : decode b_L_law 536 = .ok (.iload 4, 2) := by decide +kernel
theorem d_L_law_538 : decode b_L_law 538 = .ok (.iconst 2, 1) := by decide +kernel
theorem d_L_law_539 : decode b_L_law 539 = .ok (.iadd, 1) := by decide +kernel
theorem d_L_law_540 : decode b_L_law 540 = .ok (.iaload, 1) := by decide +kernel
theorem d_L_law_541 : decode b_L_law 541 = .ok (.invokevirtual 90, 3) := by decide +kernel
theorem d_L_law_544 : decode b_L_law 544 = .ok (.pop, 1) := by decide +kernel
theorem d_L_law_545 : decode b_L_law 545 = .ok (.goto 65, 3) := by decide +kernel
theorem d_L_law_548 : decode b_L_law 548 = .ok (.aload_n 1, 1) := by decide +kernel
theorem d_L_law_549 : decode b_L_law 549 = .ok (.aload_n 0, 1) := by decide +kernel
theorem d_L_law_550 : decode b_L_law 550 = .ok (.iload 4, 2) := by decide +kernel
theorem d_L_law_552 : decode b_L_law 552 = .ok (.iconst 1, 1) := by decide +kernel
theorem d_L_law_553 : decode b_L_law 553 = .ok (.iadd, 1) := by decide +kernel
theorem d_L_law_554 : decode b_L_law 554 = .ok (.iaload, 1) := by decide +kernel
theorem d_L_law_555 : decode b_L_law 555 = .ok (.aload_n 0, 1) := by decide +kernel
theorem d_L_law_556 : decode b_L_law 556 = .ok (.iload 4, 2) := by decide +kernel
theorem d_L_law_558 : decode b_L_law 558 = .ok (.iconst 2, 1) := by decide +kernel
theorem d_L_law_559 : decode b_L_law 559 = .ok (.iadd, 1) := by decide +kernel
theorem d_L_law_560 : decode b_L_law 560 = .ok (.iaload, 1) := by decide +kernel
theorem d_L_law_561 : decode b_L_law 561 = .ok (.invokevirtual 91, 3) := by decide +kernel
theorem d_L_law_564 : decode b_L_law 564 = .ok (.pop, 1) := by decide +kernel
theorem d_L_law_565 : decode b_L_law 565 = .ok (.aload_n 2, 1) := by decide +kernel
theorem d_L_law_566 : decode b_L_law 566 = .ok (.aload_n 0, 1) := by decide +kernel
theorem d_L_law_567 : decode b_L_law 567 = .ok (.iload 4, 2) := by decide +kernel
theorem d_L_law_569 : decode b_L_law 569 = .ok (.iconst 1, 1) := by decide +kernel
theorem d_L_law_570 : decode b_L_law 570 = .ok (.iadd, 1) := by decide +kernel
theorem d_L_law_571 : decode b_L_law 571 = .ok (.iaload, 1) := by decide +kernel
theorem d_L_law_572 : decode b_L_law 572 = .ok (.aload_n 0, 1) := by decide +kernel
theorem d_L_law_573 : decode b_L_law 573 = .ok (.iload 4, 2) := by decide +kernel
theorem d_L_law_575 : decode b_L_law 575 = .ok (.iconst 2, 1) := by decide +kernel
theorem d_L_law_576 : decode b_L_law 576 = .ok (.iadd, 1) := by decide +kernel
theorem d_L_law_577 : decode b_L_law 577 = .ok (.iaload, 1) := by decide +kernel
theorem d_L_law_578 : decode b_L_law 578 = .ok (.invokevirtual 94, 3) := by decide +kernel
theorem d_L_law_581 : decode b_L_law 581 = .ok (.pop, 1) := by decide +kernel
theorem d_L_law_582 : decode b_L_law 582 = .ok (.goto 28, 3) := by decide +kernel
theorem d_L_law_585 : decode b_L_law 585 = .ok (.aload_n 1, 1) := by decide +kernel
theorem d_L_law_586 : decode b_L_law 586 = .ok (.aload_n 0, 1) := by decide +kernel
theorem d_L_law_587 : decode b_L_law 587 = .ok (.iload 4, 2) := by decide +kernel
theorem d_L_law_589 : decode b_L_law 589 = .ok (.iconst 1, 1) := by decide +kernel
theorem d_L_law_590 : decode b_L_law 590 = .ok (.iadd, 1) := by decide +kernel
theorem d_L_law_591 : decode b_L_law 591 = .ok (.iaload, 1) := by decide +kernel
theorem d_L_law_592 : decode b_L_law 592 = .ok (.invokevirtual 95, 3) := by decide +kernel
theorem d_L_law_595 : decode b_L_law 595 = .ok (.pop, 1) := by decide +kernel
theorem d_L_law_596 : decode b_L_law 596 = .ok (.aload_n 2, 1) := by decide +kernel
theorem d_L_law_597 : decode b_L_law 597 = .ok (.aload_n 0, 1) := by decide +kernel
theorem d_L_law_598 : decode b_L_law 598 = .ok (.iload 4, 2) := by decide +kernel
theorem d_L_law_600 : decode b_L_law 600 = .ok (.iconst 1, 1) := by decide +kernel
theorem d_L_law_601 : decode b_L_law 601 = .ok (.iadd, 1) := by decide +kernel
theorem d_L_law_602 : decode b_L_law 602 = .ok (.iaload, 1) := by decide +kernel
theorem d_L_law_603 : decode b_L_law 603 = .ok (.invokevirtual 98, 3) := by decide +kernel
theorem d_L_law_606 : decode b_L_law 606 = .ok (.pop, 1) := by decide +kernel
theorem d_L_law_607 : decode b_L_law 607 = .ok (.goto 3, 3) := by decide +kernel
theorem d_L_law_610 : decode b_L_law 610 = .ok (.iinc 4 5, 3) := by decide +kernel
theorem d_L_law_613 : decode b_L_law 613 = .ok (.goto (-590), 3) := by decide +kernel
theorem d_L_law_616 : decode b_L_law 616 = .ok (.iconst 1, 1) := by decide +kernel
theorem d_L_law_617 : decode b_L_law 617 = .ok (.ireturn, 1) := by decide +kernel
