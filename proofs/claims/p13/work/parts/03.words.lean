/-! words of the tables that are used, by their places -/
def tb : List Cond := lw_tbl.filter goodWord
theorem tb_mem {w : Cond} (h : w ∈ lw_tbl) (g : goodWord w = true) : w ∈ tb := List.mem_filter.mpr ⟨h, g⟩
theorem tb_t {w : Cond} (i : Nat) (h : tables_1[i]? = some w) (g : goodWord w = true) : w ∈ tb := tb_mem (List.mem_append_right _ (List.mem_of_getElem? h)) g
theorem tb_s {w : Cond} (i : Nat) (h : (k2_sels lw_privs)[i]? = some w) (g : goodWord w = true) : w ∈ tb := tb_mem (List.mem_append_left _ (List.mem_of_getElem? h)) g
theorem tb_in {w : Cond} (h : w ∈ tb) : w ∈ lw_tbl := (List.mem_filter.mp h).1
theorem tb_good {w : Cond} (h : w ∈ tb) : (w.onTables && w.keeps) = true ∨ ∃ ty, w = .arrayClass ty := good_of_word (List.mem_filter.mp h).2
abbrev tbw (y : MethodName) (b : ByteArray) (n : Nat) (r : Option FieldType) : List Cond := Cond.code y b n r :: tb
theorem gd {y : MethodName} {b : ByteArray} {n : Nat} {r : Option FieldType} (hc : Cond.code y b n r ∈ tb) : GoodIn tb (tbw y b n r) := fun w h => (List.mem_cons.mp h).elim (fun e => e ▸ ⟨hc, tb_good hc⟩) (fun h => ⟨h, tb_good h⟩)
theorem gd_l {l ws : List Cond} (h1 : ∀ w ∈ l, w ∈ tb) (h2 : GoodIn tb ws) : GoodIn tb (l ++ ws) := fun w h => (List.mem_append.mp h).elim (fun h => ⟨h1 w h, tb_good (h1 w h)⟩) (h2 w)
theorem gdS {y : MethodName} {b : ByteArray} {n i : Nat} {r : Option FieldType} {own : String} (hc : Cond.code y b n r ∈ tb) (hl : Cond.methodLink own i y ∈ tb) (hs : Cond.static y ∈ tb) (hi : Cond.initialized y.cls ∈ tb) : GoodIn tb (va_wsS own i y (tbw y b n r)) := gd_l (List.forall_mem_cons.mpr ⟨hl, List.forall_mem_cons.mpr ⟨hs, List.forall_mem_cons.mpr ⟨hi, fun _ h => absurd h List.not_mem_nil⟩⟩⟩) (gd hc)
theorem gdV {y : MethodName} {b : ByteArray} {n i : Nat} {r : Option FieldType} {own C : String} (hc : Cond.code y b n r ∈ tb) (hl : Cond.methodLink own i y ∈ tb) (hs : Cond.instanceMethod y ∈ tb) (he : Cond.selects C y y ∈ tb) (hi : Cond.initialized C ∈ tb) : GoodIn tb (wsV own i C y (tbw y b n r)) := gd_l (List.forall_mem_cons.mpr ⟨hl, List.forall_mem_cons.mpr ⟨hs, List.forall_mem_cons.mpr ⟨he, List.forall_mem_cons.mpr ⟨hi, fun _ h => absurd h List.not_mem_nil⟩⟩⟩⟩) (gd hc)
theorem k_0 : Cond.initialized "VotedTripleLaw" ∈ tb := tb_t 0 rfl (by decide +kernel)
theorem k_1 : Cond.initialized "VotedTriple" ∈ tb := tb_t 1 rfl (by decide +kernel)
theorem k_2 : Cond.initialized "VotedTriple$Program" ∈ tb := tb_t 2 rfl (by decide +kernel)
theorem k_3 : Cond.initialized "VotedTriple$Processor" ∈ tb := tb_t 3 rfl (by decide +kernel)
theorem k_4 : Cond.initialized "VotedTriple$PerfectOne" ∈ tb := tb_t 4 rfl (by decide +kernel)
theorem k_5 : Cond.initialized "VotedTriple$WordsOut" ∈ tb := tb_t 5 rfl (by decide +kernel)
theorem k_6 : Cond.initialized "VotedTriple$WordsIn" ∈ tb := tb_t 6 rfl (by decide +kernel)
theorem k_7 : Cond.initialized "VotedTriple$VotedModule" ∈ tb := tb_t 7 rfl (by decide +kernel)
theorem k_8 : Cond.initialized "VotedTripleModel" ∈ tb := tb_t 8 rfl (by decide +kernel)
theorem k_9 : Cond.initialized "VotedTriple$Code" ∈ tb := tb_t 9 rfl (by decide +kernel)
theorem k_10 : Cond.initialized "java/lang/Integer" ∈ tb := tb_t 10 rfl (by decide +kernel)
theorem k_11 : Cond.initialized "java/lang/Throwable" ∈ tb := tb_t 11 rfl (by decide +kernel)
theorem k_14 : Cond.initialized "java/lang/IllegalStateException" ∈ tb := tb_t 14 rfl (by decide +kernel)
theorem k_15 : Cond.initialized "java/lang/IllegalArgumentException" ∈ tb := tb_t 15 rfl (by decide +kernel)
theorem k_16 : Cond.initialized "java/lang/System" ∈ tb := tb_t 16 rfl (by decide +kernel)
theorem k_17 : Cond.initialized "java/lang/IndexOutOfBoundsException" ∈ tb := tb_t 17 rfl (by decide +kernel)
theorem k_18 : Cond.classLink "VotedTripleLaw" 8 "VotedTriple" ∈ tb := tb_t 18 rfl (by decide +kernel)
theorem k_19 : Cond.instantiable "VotedTriple" 11 ∈ tb := tb_t 19 rfl (by decide +kernel)
theorem k_20 : Cond.methodLink "VotedTripleLaw" 29 y_T_init ∈ tb := tb_t 20 rfl (by decide +kernel)
theorem k_21 : Cond.instanceMethod y_T_init ∈ tb := tb_t 21 rfl (by decide +kernel)
theorem k_22 : Cond.code y_T_init b_T_init 2 none ∈ tb := tb_t 22 rfl (by decide +kernel)
theorem k_23 : Cond.methodLink "VotedTriple" 1 Lib.objectInit ∈ tb := tb_t 23 rfl (by decide +kernel)
theorem k_24 : Cond.instanceMethod ⟨"java/lang/Object", "<init>", "()V"⟩ ∈ tb := tb_t 24 rfl (by decide +kernel)
theorem k_25 : Cond.code Lib.objectInit ⟨#[0xb1]⟩ 1 none ∈ tb := tb_t 25 rfl (by decide +kernel)
theorem k_26 : Cond.classLink "VotedTriple" 7 "VotedTriple$Program" ∈ tb := tb_t 26 rfl (by decide +kernel)
theorem k_27 : Cond.instantiable "VotedTriple$Program" 2 ∈ tb := tb_t 27 rfl (by decide +kernel)
theorem k_29 : Cond.instanceMethod y_P_init ∈ tb := tb_t 29 rfl (by decide +kernel)
theorem k_30 : Cond.code y_P_init b_P_init 1 none ∈ tb := tb_t 30 rfl (by decide +kernel)
theorem k_31 : Cond.methodLink "VotedTriple$Program" 3 Lib.objectInit ∈ tb := tb_t 31 rfl (by decide +kernel)
theorem k_32 : Cond.fieldLink "VotedTriple$Program" 11 "VotedTriple$Program" "words" "[I" ∈ tb := tb_t 32 rfl (by decide +kernel)
theorem k_33 : Cond.fieldLink "VotedTriple$Program" 15 "VotedTriple$Program" "count" "I" ∈ tb := tb_t 33 rfl (by decide +kernel)
theorem k_34 : Cond.laysFinal "VotedTriple$Program" "VotedTriple$Program" "words" "[I" ∈ tb := tb_t 34 rfl (by decide +kernel)
theorem k_36 : Cond.lays "VotedTriple$Program" "VotedTriple$Program" "count" "I" ∈ tb := tb_t 36 rfl (by decide +kernel)
theorem k_39 : Cond.arrayClass .int ∈ tb := tb_t 39 rfl (by decide +kernel)
theorem k_40 : Cond.classLink "VotedTriple" 16 "VotedTriple$VotedModule" ∈ tb := tb_t 40 rfl (by decide +kernel)
theorem k_42 : Cond.classLink "VotedTriple" 22 "VotedTriple$PerfectOne" ∈ tb := tb_t 42 rfl (by decide +kernel)
theorem k_43 : Cond.instantiable "VotedTriple$PerfectOne" 10 ∈ tb := tb_t 43 rfl (by decide +kernel)
theorem k_45 : Cond.instanceMethod y_E_init ∈ tb := tb_t 45 rfl (by decide +kernel)
theorem k_46 : Cond.code y_E_init b_E_init 1 none ∈ tb := tb_t 46 rfl (by decide +kernel)
theorem k_48 : Cond.instanceMethod y_C_init ∈ tb := tb_t 48 rfl (by decide +kernel)
theorem k_49 : Cond.code y_C_init b_C_init 1 none ∈ tb := tb_t 49 rfl (by decide +kernel)
theorem k_50 : Cond.methodLink "VotedTriple$Processor" 3 Lib.objectInit ∈ tb := tb_t 50 rfl (by decide +kernel)
theorem k_51 : Cond.classLink "VotedTriple$PerfectOne" 9 "VotedTriple$WordsOut" ∈ tb := tb_t 51 rfl (by decide +kernel)
theorem k_52 : Cond.instantiable "VotedTriple$WordsOut" 2 ∈ tb := tb_t 52 rfl (by decide +kernel)
theorem k_54 : Cond.instanceMethod y_O_init ∈ tb := tb_t 54 rfl (by decide +kernel)
theorem k_55 : Cond.code y_O_init b_O_init 1 none ∈ tb := tb_t 55 rfl (by decide +kernel)
theorem k_56 : Cond.methodLink "VotedTriple$WordsOut" 1 Lib.objectInit ∈ tb := tb_t 56 rfl (by decide +kernel)
theorem k_57 : Cond.fieldLink "VotedTriple$WordsOut" 9 "VotedTriple$WordsOut" "kept" "[I" ∈ tb := tb_t 57 rfl (by decide +kernel)
theorem k_58 : Cond.fieldLink "VotedTriple" 112 "VotedTriple$WordsOut" "kept" "[I" ∈ tb := tb_t 58 rfl (by decide +kernel)
theorem k_59 : Cond.fieldLink "VotedTriple$WordsOut" 13 "VotedTriple$WordsOut" "count" "I" ∈ tb := tb_t 59 rfl (by decide +kernel)
theorem k_60 : Cond.fieldLink "VotedTriple" 172 "VotedTriple$WordsOut" "count" "I" ∈ tb := tb_t 60 rfl (by decide +kernel)
theorem k_61 : Cond.laysFinal "VotedTriple$WordsOut" "VotedTriple$WordsOut" "kept" "[I" ∈ tb := tb_t 61 rfl (by decide +kernel)
theorem k_63 : Cond.lays "VotedTriple$WordsOut" "VotedTriple$WordsOut" "count" "I" ∈ tb := tb_t 63 rfl (by decide +kernel)
theorem k_66 : Cond.fieldLink "VotedTriple$PerfectOne" 12 "VotedTriple$PerfectOne" "wordsOut" "LVotedTriple$WordsOut;" ∈ tb := tb_t 66 rfl (by decide +kernel)
theorem k_67 : Cond.fieldLink "VotedTriple" 116 "VotedTriple$PerfectOne" "wordsOut" "LVotedTriple$WordsOut;" ∈ tb := tb_t 67 rfl (by decide +kernel)
theorem k_68 : Cond.fieldLink "VotedTriple$PerfectOne" 18 "VotedTriple$PerfectOne" "words" "[I" ∈ tb := tb_t 68 rfl (by decide +kernel)
theorem k_69 : Cond.fieldLink "VotedTriple$PerfectOne" 28 "VotedTriple$PerfectOne" "wordsTaken" "I" ∈ tb := tb_t 69 rfl (by decide +kernel)
theorem k_70 : Cond.fieldLink "VotedTriple$Processor" 9 "VotedTriple$Processor" "registers" "[I" ∈ tb := tb_t 70 rfl (by decide +kernel)
theorem k_71 : Cond.fieldLink "VotedTriple$VotedModule" 66 "VotedTriple$VotedModule" "registers" "[I" ∈ tb := tb_t 71 rfl (by decide +kernel)
theorem k_72 : Cond.sameField "VotedTriple$VotedModule" "VotedTriple$Processor" "registers" "[I" ∈ tb := tb_t 72 rfl (by decide +kernel)
theorem k_73 : Cond.fieldLink "VotedTriple" 128 "VotedTriple$VotedModule" "registers" "[I" ∈ tb := tb_t 73 rfl (by decide +kernel)
theorem k_74 : Cond.fieldLink "VotedTriple$Processor" 15 "VotedTriple$Processor" "counter" "I" ∈ tb := tb_t 74 rfl (by decide +kernel)
theorem k_75 : Cond.fieldLink "VotedTriple$VotedModule" 63 "VotedTriple$VotedModule" "counter" "I" ∈ tb := tb_t 75 rfl (by decide +kernel)
theorem k_76 : Cond.sameField "VotedTriple$VotedModule" "VotedTriple$Processor" "counter" "I" ∈ tb := tb_t 76 rfl (by decide +kernel)
theorem k_77 : Cond.fieldLink "VotedTriple" 134 "VotedTriple$VotedModule" "counter" "I" ∈ tb := tb_t 77 rfl (by decide +kernel)
theorem k_78 : Cond.fieldLink "VotedTriple$PerfectOne" 39 "VotedTriple$PerfectOne" "wish" "I" ∈ tb := tb_t 78 rfl (by decide +kernel)
theorem k_79 : Cond.sameField "VotedTriple$PerfectOne" "VotedTriple$Processor" "wish" "I" ∈ tb := tb_t 79 rfl (by decide +kernel)
theorem k_80 : Cond.fieldLink "VotedTriple$VotedModule" 57 "VotedTriple$VotedModule" "wish" "I" ∈ tb := tb_t 80 rfl (by decide +kernel)
theorem k_81 : Cond.sameField "VotedTriple$VotedModule" "VotedTriple$Processor" "wish" "I" ∈ tb := tb_t 81 rfl (by decide +kernel)
theorem k_82 : Cond.fieldLink "VotedTriple$Processor" 28 "VotedTriple$Processor" "wish" "I" ∈ tb := tb_t 82 rfl (by decide +kernel)
theorem k_83 : Cond.fieldLink "VotedTriple" 257 "VotedTriple$VotedModule" "wish" "I" ∈ tb := tb_t 83 rfl (by decide +kernel)
theorem k_84 : Cond.fieldLink "VotedTriple$PerfectOne" 55 "VotedTriple$PerfectOne" "wishedWord" "I" ∈ tb := tb_t 84 rfl (by decide +kernel)
theorem k_85 : Cond.sameField "VotedTriple$PerfectOne" "VotedTriple$Processor" "wishedWord" "I" ∈ tb := tb_t 85 rfl (by decide +kernel)
theorem k_86 : Cond.fieldLink "VotedTriple$Processor" 31 "VotedTriple$Processor" "wishedWord" "I" ∈ tb := tb_t 86 rfl (by decide +kernel)
theorem k_87 : Cond.fieldLink "VotedTriple$VotedModule" 60 "VotedTriple$VotedModule" "wishedWord" "I" ∈ tb := tb_t 87 rfl (by decide +kernel)
theorem k_88 : Cond.sameField "VotedTriple$VotedModule" "VotedTriple$Processor" "wishedWord" "I" ∈ tb := tb_t 88 rfl (by decide +kernel)
theorem k_89 : Cond.fieldLink "VotedTriple" 265 "VotedTriple$VotedModule" "wishedWord" "I" ∈ tb := tb_t 89 rfl (by decide +kernel)
theorem k_90 : Cond.fieldLink "VotedTriple$Processor" 22 "VotedTriple$Processor" "inRegister" "I" ∈ tb := tb_t 90 rfl (by decide +kernel)
theorem k_91 : Cond.fieldLink "VotedTriple$Processor" 25 "VotedTriple$Processor" "storedAt" "I" ∈ tb := tb_t 91 rfl (by decide +kernel)
theorem k_92 : Cond.fieldLink "VotedTriple" 276 "VotedTriple$VotedModule" "storedAt" "I" ∈ tb := tb_t 92 rfl (by decide +kernel)
theorem k_93 : Cond.sameField "VotedTriple$VotedModule" "VotedTriple$Processor" "storedAt" "I" ∈ tb := tb_t 93 rfl (by decide +kernel)
theorem k_94 : Cond.fieldLink "VotedTriple$Processor" 62 "VotedTriple$Processor" "storedWord" "I" ∈ tb := tb_t 94 rfl (by decide +kernel)
theorem k_95 : Cond.fieldLink "VotedTriple" 282 "VotedTriple$VotedModule" "storedWord" "I" ∈ tb := tb_t 95 rfl (by decide +kernel)
theorem k_96 : Cond.sameField "VotedTriple$VotedModule" "VotedTriple$Processor" "storedWord" "I" ∈ tb := tb_t 96 rfl (by decide +kernel)
theorem k_97 : Cond.laysFinal "VotedTriple$PerfectOne" "VotedTriple$PerfectOne" "wordsOut" "LVotedTriple$WordsOut;" ∈ tb := tb_t 97 rfl (by decide +kernel)
theorem k_99 : Cond.laysFinal "VotedTriple$PerfectOne" "VotedTriple$PerfectOne" "words" "[I" ∈ tb := tb_t 99 rfl (by decide +kernel)
theorem k_101 : Cond.lays "VotedTriple$PerfectOne" "VotedTriple$PerfectOne" "wordsTaken" "I" ∈ tb := tb_t 101 rfl (by decide +kernel)
theorem k_103 : Cond.laysFinal "VotedTriple$PerfectOne" "VotedTriple$Processor" "registers" "[I" ∈ tb := tb_t 103 rfl (by decide +kernel)
theorem k_105 : Cond.lays "VotedTriple$PerfectOne" "VotedTriple$Processor" "counter" "I" ∈ tb := tb_t 105 rfl (by decide +kernel)
theorem k_107 : Cond.lays "VotedTriple$PerfectOne" "VotedTriple$Processor" "wish" "I" ∈ tb := tb_t 107 rfl (by decide +kernel)
theorem k_109 : Cond.lays "VotedTriple$PerfectOne" "VotedTriple$Processor" "wishedWord" "I" ∈ tb := tb_t 109 rfl (by decide +kernel)
theorem k_111 : Cond.lays "VotedTriple$PerfectOne" "VotedTriple$Processor" "inRegister" "I" ∈ tb := tb_t 111 rfl (by decide +kernel)
theorem k_113 : Cond.lays "VotedTriple$PerfectOne" "VotedTriple$Processor" "storedAt" "I" ∈ tb := tb_t 113 rfl (by decide +kernel)
theorem k_115 : Cond.lays "VotedTriple$PerfectOne" "VotedTriple$Processor" "storedWord" "I" ∈ tb := tb_t 115 rfl (by decide +kernel)
theorem k_118 : Cond.classLink "VotedTriple" 29 "VotedTriple$WordsIn" ∈ tb := tb_t 118 rfl (by decide +kernel)
theorem k_119 : Cond.instantiable "VotedTriple$WordsIn" 2 ∈ tb := tb_t 119 rfl (by decide +kernel)
theorem k_121 : Cond.instanceMethod y_N_init ∈ tb := tb_t 121 rfl (by decide +kernel)
theorem k_122 : Cond.code y_N_init b_N_init 1 none ∈ tb := tb_t 122 rfl (by decide +kernel)
theorem k_123 : Cond.methodLink "VotedTriple$WordsIn" 1 Lib.objectInit ∈ tb := tb_t 123 rfl (by decide +kernel)
theorem k_124 : Cond.fieldLink "VotedTriple$WordsIn" 9 "VotedTriple$WordsIn" "words" "[I" ∈ tb := tb_t 124 rfl (by decide +kernel)
theorem k_125 : Cond.fieldLink "VotedTriple$WordsIn" 13 "VotedTriple$WordsIn" "count" "I" ∈ tb := tb_t 125 rfl (by decide +kernel)
theorem k_126 : Cond.fieldLink "VotedTriple$PerfectOne" 52 "VotedTriple$WordsIn" "count" "I" ∈ tb := tb_t 126 rfl (by decide +kernel)
theorem k_127 : Cond.fieldLink "VotedTriple" 175 "VotedTriple$WordsIn" "count" "I" ∈ tb := tb_t 127 rfl (by decide +kernel)
theorem k_128 : Cond.laysFinal "VotedTriple$WordsIn" "VotedTriple$WordsIn" "words" "[I" ∈ tb := tb_t 128 rfl (by decide +kernel)
theorem k_130 : Cond.lays "VotedTriple$WordsIn" "VotedTriple$WordsIn" "count" "I" ∈ tb := tb_t 130 rfl (by decide +kernel)
theorem k_133 : Cond.classLink "VotedTriple" 36 "VotedTriple$WordsOut" ∈ tb := tb_t 133 rfl (by decide +kernel)
theorem k_135 : Cond.instantiable "VotedTriple$VotedModule" 19 ∈ tb := tb_t 135 rfl (by decide +kernel)
theorem k_137 : Cond.instanceMethod y_D_init ∈ tb := tb_t 137 rfl (by decide +kernel)
theorem k_138 : Cond.code y_D_init b_D_init 1 none ∈ tb := tb_t 138 rfl (by decide +kernel)
theorem k_140 : Cond.fieldLink "VotedTriple$VotedModule" 9 "VotedTriple$VotedModule" "codes" "[I" ∈ tb := tb_t 140 rfl (by decide +kernel)
theorem k_141 : Cond.fieldLink "VotedTriple" 131 "VotedTriple$VotedModule" "codes" "[I" ∈ tb := tb_t 141 rfl (by decide +kernel)
theorem k_142 : Cond.fieldLink "VotedTriple$VotedModule" 22 "VotedTriple$VotedModule" "status" "I" ∈ tb := tb_t 142 rfl (by decide +kernel)
theorem k_143 : Cond.fieldLink "VotedTriple" 151 "VotedTriple$VotedModule" "status" "I" ∈ tb := tb_t 143 rfl (by decide +kernel)
theorem k_144 : Cond.fieldLink "VotedTriple$VotedModule" 26 "VotedTriple$VotedModule" "mark" "I" ∈ tb := tb_t 144 rfl (by decide +kernel)
theorem k_145 : Cond.fieldLink "VotedTriple" 279 "VotedTriple$VotedModule" "mark" "I" ∈ tb := tb_t 145 rfl (by decide +kernel)
theorem k_146 : Cond.fieldLink "VotedTriple$VotedModule" 29 "VotedTriple$VotedModule" "blame" "I" ∈ tb := tb_t 146 rfl (by decide +kernel)
theorem k_147 : Cond.fieldLink "VotedTriple" 160 "VotedTriple$VotedModule" "blame" "I" ∈ tb := tb_t 147 rfl (by decide +kernel)
theorem k_148 : Cond.fieldLink "VotedTriple$VotedModule" 32 "VotedTriple$VotedModule" "frozen" "Z" ∈ tb := tb_t 148 rfl (by decide +kernel)
theorem k_149 : Cond.fieldLink "VotedTriple" 141 "VotedTriple$VotedModule" "frozen" "Z" ∈ tb := tb_t 149 rfl (by decide +kernel)
theorem k_150 : Cond.fieldLink "VotedTriple$VotedModule" 36 "VotedTriple$VotedModule" "toSkip" "Z" ∈ tb := tb_t 150 rfl (by decide +kernel)
theorem k_151 : Cond.fieldLink "VotedTriple" 144 "VotedTriple$VotedModule" "toSkip" "Z" ∈ tb := tb_t 151 rfl (by decide +kernel)
theorem k_152 : Cond.fieldLink "VotedTriple$VotedModule" 39 "VotedTriple$VotedModule" "putRight" "I" ∈ tb := tb_t 152 rfl (by decide +kernel)
theorem k_153 : Cond.fieldLink "VotedTriple" 163 "VotedTriple$VotedModule" "putRight" "I" ∈ tb := tb_t 153 rfl (by decide +kernel)
theorem k_154 : Cond.fieldLink "VotedTriple$VotedModule" 42 "VotedTriple$VotedModule" "timesNamed" "I" ∈ tb := tb_t 154 rfl (by decide +kernel)
theorem k_155 : Cond.fieldLink "VotedTriple" 166 "VotedTriple$VotedModule" "timesNamed" "I" ∈ tb := tb_t 155 rfl (by decide +kernel)
theorem k_156 : Cond.fieldLink "VotedTriple$VotedModule" 48 "VotedTriple$VotedModule" "named" "Z" ∈ tb := tb_t 156 rfl (by decide +kernel)
theorem k_157 : Cond.fieldLink "VotedTriple" 298 "VotedTriple$VotedModule" "named" "Z" ∈ tb := tb_t 157 rfl (by decide +kernel)
theorem k_158 : Cond.fieldLink "VotedTriple$VotedModule" 54 "VotedTriple$VotedModule" "readSpoilt" "Z" ∈ tb := tb_t 158 rfl (by decide +kernel)
theorem k_159 : Cond.fieldLink "VotedTriple" 251 "VotedTriple$VotedModule" "readSpoilt" "Z" ∈ tb := tb_t 159 rfl (by decide +kernel)
theorem k_160 : Cond.fieldLink "VotedTriple" 292 "VotedTriple$VotedModule" "scrubFoundSpoilt" "Z" ∈ tb := tb_t 160 rfl (by decide +kernel)
theorem k_161 : Cond.fieldLink "VotedTriple" 230 "VotedTriple$VotedModule" "ballot" "I" ∈ tb := tb_t 161 rfl (by decide +kernel)
theorem k_162 : Cond.laysFinal "VotedTriple$VotedModule" "VotedTriple$VotedModule" "codes" "[I" ∈ tb := tb_t 162 rfl (by decide +kernel)
theorem k_164 : Cond.lays "VotedTriple$VotedModule" "VotedTriple$VotedModule" "status" "I" ∈ tb := tb_t 164 rfl (by decide +kernel)
theorem k_166 : Cond.lays "VotedTriple$VotedModule" "VotedTriple$VotedModule" "mark" "I" ∈ tb := tb_t 166 rfl (by decide +kernel)
theorem k_168 : Cond.lays "VotedTriple$VotedModule" "VotedTriple$VotedModule" "blame" "I" ∈ tb := tb_t 168 rfl (by decide +kernel)
theorem k_170 : Cond.lays "VotedTriple$VotedModule" "VotedTriple$VotedModule" "frozen" "Z" ∈ tb := tb_t 170 rfl (by decide +kernel)
theorem k_172 : Cond.lays "VotedTriple$VotedModule" "VotedTriple$VotedModule" "toSkip" "Z" ∈ tb := tb_t 172 rfl (by decide +kernel)
theorem k_174 : Cond.lays "VotedTriple$VotedModule" "VotedTriple$VotedModule" "putRight" "I" ∈ tb := tb_t 174 rfl (by decide +kernel)
theorem k_176 : Cond.lays "VotedTriple$VotedModule" "VotedTriple$VotedModule" "timesNamed" "I" ∈ tb := tb_t 176 rfl (by decide +kernel)
theorem k_178 : Cond.lays "VotedTriple$VotedModule" "VotedTriple$VotedModule" "named" "Z" ∈ tb := tb_t 178 rfl (by decide +kernel)
theorem k_180 : Cond.lays "VotedTriple$VotedModule" "VotedTriple$VotedModule" "readSpoilt" "Z" ∈ tb := tb_t 180 rfl (by decide +kernel)
theorem k_182 : Cond.lays "VotedTriple$VotedModule" "VotedTriple$VotedModule" "scrubFoundSpoilt" "Z" ∈ tb := tb_t 182 rfl (by decide +kernel)
theorem k_184 : Cond.lays "VotedTriple$VotedModule" "VotedTriple$VotedModule" "ballot" "I" ∈ tb := tb_t 184 rfl (by decide +kernel)
theorem k_186 : Cond.laysFinal "VotedTriple$VotedModule" "VotedTriple$Processor" "registers" "[I" ∈ tb := tb_t 186 rfl (by decide +kernel)
theorem k_187 : Cond.lays "VotedTriple$VotedModule" "VotedTriple$Processor" "counter" "I" ∈ tb := tb_t 187 rfl (by decide +kernel)
theorem k_188 : Cond.lays "VotedTriple$VotedModule" "VotedTriple$Processor" "wish" "I" ∈ tb := tb_t 188 rfl (by decide +kernel)
theorem k_189 : Cond.lays "VotedTriple$VotedModule" "VotedTriple$Processor" "wishedWord" "I" ∈ tb := tb_t 189 rfl (by decide +kernel)
theorem k_190 : Cond.lays "VotedTriple$VotedModule" "VotedTriple$Processor" "inRegister" "I" ∈ tb := tb_t 190 rfl (by decide +kernel)
theorem k_191 : Cond.lays "VotedTriple$VotedModule" "VotedTriple$Processor" "storedAt" "I" ∈ tb := tb_t 191 rfl (by decide +kernel)
theorem k_192 : Cond.lays "VotedTriple$VotedModule" "VotedTriple$Processor" "storedWord" "I" ∈ tb := tb_t 192 rfl (by decide +kernel)
theorem k_194 : Cond.fieldLink "VotedTriple" 10 "VotedTriple" "instructions" "LVotedTriple$Program;" ∈ tb := tb_t 194 rfl (by decide +kernel)
theorem k_195 : Cond.fieldLink "VotedTriple" 18 "VotedTriple" "modules" "[LVotedTriple$VotedModule;" ∈ tb := tb_t 195 rfl (by decide +kernel)
theorem k_196 : Cond.fieldLink "VotedTriple" 25 "VotedTriple" "perfectOne" "LVotedTriple$PerfectOne;" ∈ tb := tb_t 196 rfl (by decide +kernel)
theorem k_197 : Cond.fieldLink "VotedTriple" 32 "VotedTriple" "wordsIn" "LVotedTriple$WordsIn;" ∈ tb := tb_t 197 rfl (by decide +kernel)
theorem k_198 : Cond.fieldLink "VotedTriple" 39 "VotedTriple" "wordsOut" "LVotedTriple$WordsOut;" ∈ tb := tb_t 198 rfl (by decide +kernel)
theorem k_199 : Cond.fieldLink "VotedTriple" 44 "VotedTriple" "started" "Z" ∈ tb := tb_t 199 rfl (by decide +kernel)
theorem k_200 : Cond.fieldLink "VotedTriple" 79 "VotedTriple" "safe" "Z" ∈ tb := tb_t 200 rfl (by decide +kernel)
theorem k_201 : Cond.fieldLink "VotedTriple" 76 "VotedTriple" "singleAllowed" "Z" ∈ tb := tb_t 201 rfl (by decide +kernel)
theorem k_202 : Cond.fieldLink "VotedTriple" 70 "VotedTriple" "steps" "I" ∈ tb := tb_t 202 rfl (by decide +kernel)
theorem k_203 : Cond.fieldLink "VotedTriple" 73 "VotedTriple" "stepsNotAlike" "I" ∈ tb := tb_t 203 rfl (by decide +kernel)
theorem k_204 : Cond.fieldLink "VotedTriple" 66 "VotedTriple" "wordsTaken" "I" ∈ tb := tb_t 204 rfl (by decide +kernel)
theorem k_205 : Cond.laysFinal "VotedTriple" "VotedTriple" "instructions" "LVotedTriple$Program;" ∈ tb := tb_t 205 rfl (by decide +kernel)
theorem k_207 : Cond.laysFinal "VotedTriple" "VotedTriple" "modules" "[LVotedTriple$VotedModule;" ∈ tb := tb_t 207 rfl (by decide +kernel)
theorem k_209 : Cond.laysFinal "VotedTriple" "VotedTriple" "perfectOne" "LVotedTriple$PerfectOne;" ∈ tb := tb_t 209 rfl (by decide +kernel)
theorem k_211 : Cond.laysFinal "VotedTriple" "VotedTriple" "wordsIn" "LVotedTriple$WordsIn;" ∈ tb := tb_t 211 rfl (by decide +kernel)
theorem k_213 : Cond.laysFinal "VotedTriple" "VotedTriple" "wordsOut" "LVotedTriple$WordsOut;" ∈ tb := tb_t 213 rfl (by decide +kernel)
theorem k_215 : Cond.lays "VotedTriple" "VotedTriple" "started" "Z" ∈ tb := tb_t 215 rfl (by decide +kernel)
theorem k_217 : Cond.lays "VotedTriple" "VotedTriple" "safe" "Z" ∈ tb := tb_t 217 rfl (by decide +kernel)
theorem k_219 : Cond.lays "VotedTriple" "VotedTriple" "singleAllowed" "Z" ∈ tb := tb_t 219 rfl (by decide +kernel)
theorem k_221 : Cond.lays "VotedTriple" "VotedTriple" "steps" "I" ∈ tb := tb_t 221 rfl (by decide +kernel)
theorem k_223 : Cond.lays "VotedTriple" "VotedTriple" "stepsNotAlike" "I" ∈ tb := tb_t 223 rfl (by decide +kernel)
theorem k_225 : Cond.lays "VotedTriple" "VotedTriple" "wordsTaken" "I" ∈ tb := tb_t 225 rfl (by decide +kernel)
theorem k_228 : Cond.methodLink "VotedTripleLaw" 33 y_T_program ∈ tb := tb_t 228 rfl (by decide +kernel)
theorem k_229 : Cond.instanceMethod y_T_program ∈ tb := tb_t 229 rfl (by decide +kernel)
theorem k_230 : Cond.selects "VotedTriple" y_T_program y_T_program ∈ tb := tb_t 230 rfl (by decide +kernel)
theorem k_231 : Cond.code y_T_program b_T_program 3 (some .boolean) ∈ tb := tb_t 231 rfl (by decide +kernel)
theorem k_232 : Cond.methodLink "VotedTriple" 48 y_P_put ∈ tb := tb_t 232 rfl (by decide +kernel)
theorem k_233 : Cond.instanceMethod y_P_put ∈ tb := tb_t 233 rfl (by decide +kernel)
theorem k_234 : Cond.selects "VotedTriple$Program" y_P_put y_P_put ∈ tb := tb_t 234 rfl (by decide +kernel)
theorem k_235 : Cond.code y_P_put b_P_put 3 (some .boolean) ∈ tb := tb_t 235 rfl (by decide +kernel)
theorem k_236 : Cond.methodLink "VotedTriple$Program" 19 y_P_isInstruction ∈ tb := tb_t 236 rfl (by decide +kernel)
theorem k_237 : Cond.static y_P_isInstruction ∈ tb := tb_t 237 rfl (by decide +kernel)
theorem k_238 : Cond.code y_P_isInstruction b_P_isInstruction 1 (some .boolean) ∈ tb := tb_t 238 rfl (by decide +kernel)
theorem k_239 : Cond.methodLink "VotedTriple$Program" 23 y_P_opOf ∈ tb := tb_t 239 rfl (by decide +kernel)
theorem k_240 : Cond.static y_P_opOf ∈ tb := tb_t 240 rfl (by decide +kernel)
theorem k_241 : Cond.code y_P_opOf b_P_opOf 1 (some .int) ∈ tb := tb_t 241 rfl (by decide +kernel)
theorem k_242 : Cond.methodLink "VotedTriple$Program" 33 y_P_aOf ∈ tb := tb_t 242 rfl (by decide +kernel)
theorem k_243 : Cond.static y_P_aOf ∈ tb := tb_t 243 rfl (by decide +kernel)
theorem k_244 : Cond.code y_P_aOf b_P_aOf 1 (some .int) ∈ tb := tb_t 244 rfl (by decide +kernel)
theorem k_245 : Cond.methodLink "VotedTriple$Program" 36 y_P_isRegister ∈ tb := tb_t 245 rfl (by decide +kernel)
theorem k_246 : Cond.static y_P_isRegister ∈ tb := tb_t 246 rfl (by decide +kernel)
theorem k_247 : Cond.code y_P_isRegister b_P_isRegister 1 (some .boolean) ∈ tb := tb_t 247 rfl (by decide +kernel)
theorem k_248 : Cond.methodLink "VotedTriple$Program" 27 y_P_bOf ∈ tb := tb_t 248 rfl (by decide +kernel)
theorem k_249 : Cond.static y_P_bOf ∈ tb := tb_t 249 rfl (by decide +kernel)
theorem k_250 : Cond.code y_P_bOf b_P_bOf 1 (some .int) ∈ tb := tb_t 250 rfl (by decide +kernel)
theorem k_251 : Cond.methodLink "VotedTriple$Program" 39 y_P_cOf ∈ tb := tb_t 251 rfl (by decide +kernel)
theorem k_252 : Cond.static y_P_cOf ∈ tb := tb_t 252 rfl (by decide +kernel)
theorem k_253 : Cond.code y_P_cOf b_P_cOf 1 (some .int) ∈ tb := tb_t 253 rfl (by decide +kernel)
theorem k_254 : Cond.methodLink "VotedTripleLaw" 38 y_T_start ∈ tb := tb_t 254 rfl (by decide +kernel)
theorem k_255 : Cond.instanceMethod y_T_start ∈ tb := tb_t 255 rfl (by decide +kernel)
theorem k_256 : Cond.selects "VotedTriple" y_T_start y_T_start ∈ tb := tb_t 256 rfl (by decide +kernel)
theorem k_257 : Cond.code y_T_start b_T_start 2 (some .boolean) ∈ tb := tb_t 257 rfl (by decide +kernel)
theorem k_258 : Cond.methodLink "VotedTriple" 52 y_P_canRun ∈ tb := tb_t 258 rfl (by decide +kernel)
theorem k_259 : Cond.instanceMethod y_P_canRun ∈ tb := tb_t 259 rfl (by decide +kernel)
theorem k_260 : Cond.selects "VotedTriple$Program" y_P_canRun y_P_canRun ∈ tb := tb_t 260 rfl (by decide +kernel)
theorem k_261 : Cond.code y_P_canRun b_P_canRun 3 (some .boolean) ∈ tb := tb_t 261 rfl (by decide +kernel)
theorem k_262 : Cond.methodLink "VotedTriple" 56 y_D_makeBlank ∈ tb := tb_t 262 rfl (by decide +kernel)
theorem k_263 : Cond.instanceMethod y_D_makeBlank ∈ tb := tb_t 263 rfl (by decide +kernel)
theorem k_264 : Cond.selects "VotedTriple$VotedModule" y_D_makeBlank y_D_makeBlank ∈ tb := tb_t 264 rfl (by decide +kernel)
theorem k_265 : Cond.code y_D_makeBlank b_D_makeBlank 3 none ∈ tb := tb_t 265 rfl (by decide +kernel)
theorem k_266 : Cond.methodLink "VotedTriple$VotedModule" 15 ⟨"VotedTriple$VotedModule", "clearProcessor", "()V"⟩ ∈ tb := tb_t 266 rfl (by decide +kernel)
theorem k_267 : Cond.sameMethod "VotedTriple$VotedModule" "VotedTriple$Processor" "clearProcessor" "()V" ∈ tb := tb_t 267 rfl (by decide +kernel)
theorem k_269 : Cond.selects "VotedTriple$VotedModule" ⟨"VotedTriple$VotedModule", "clearProcessor", "()V"⟩ y_C_clearProcessor ∈ tb := tb_t 269 rfl (by decide +kernel)
theorem k_270 : Cond.instanceMethod y_C_clearProcessor ∈ tb := tb_t 270 rfl (by decide +kernel)
theorem k_271 : Cond.code y_C_clearProcessor b_C_clearProcessor 2 none ∈ tb := tb_t 271 rfl (by decide +kernel)
theorem k_272 : Cond.methodLink "VotedTriple$VotedModule" 18 y_D_writeWord ∈ tb := tb_t 272 rfl (by decide +kernel)
theorem k_273 : Cond.instanceMethod y_D_writeWord ∈ tb := tb_t 273 rfl (by decide +kernel)
theorem k_274 : Cond.selects "VotedTriple$VotedModule" y_D_writeWord y_D_writeWord ∈ tb := tb_t 274 rfl (by decide +kernel)
theorem k_275 : Cond.code y_D_writeWord b_D_writeWord 3 none ∈ tb := tb_t 275 rfl (by decide +kernel)
theorem k_276 : Cond.methodLink "VotedTriple$VotedModule" 80 y_K_ofWord ∈ tb := tb_t 276 rfl (by decide +kernel)
theorem k_277 : Cond.static y_K_ofWord ∈ tb := tb_t 277 rfl (by decide +kernel)
theorem k_278 : Cond.code y_K_ofWord b_K_ofWord 4 (some .int) ∈ tb := tb_t 278 rfl (by decide +kernel)
theorem k_279 : Cond.constant "VotedTriple$Code" 7 63488 ∈ tb := tb_t 279 rfl (by decide +kernel)
theorem k_280 : Cond.methodLink "VotedTriple$Code" 8 y_K_exclusiveOr ∈ tb := tb_t 280 rfl (by decide +kernel)
theorem k_281 : Cond.static y_K_exclusiveOr ∈ tb := tb_t 281 rfl (by decide +kernel)
theorem k_282 : Cond.code y_K_exclusiveOr b_K_exclusiveOr 3 (some .int) ∈ tb := tb_t 282 rfl (by decide +kernel)
theorem k_283 : Cond.fieldLink "VotedTriple$Code" 14 "VotedTriple$Code" "CHECKED_BITS" "[I" ∈ tb := tb_t 283 rfl (by decide +kernel)
theorem k_285 : Cond.methodLink "VotedTriple$Code" 18 y_I_bitCount ∈ tb := tb_t 285 rfl (by decide +kernel)
theorem k_286 : Cond.static y_I_bitCount ∈ tb := tb_t 286 rfl (by decide +kernel)
theorem k_287 : Cond.code y_I_bitCount b_I_bitCount 1 (some .int) ∈ tb := tb_t 287 rfl (by decide +kernel)
theorem k_288 : Cond.constant "java/lang/Integer" 265 1431655765 ∈ tb := tb_t 288 rfl (by decide +kernel)
theorem k_289 : Cond.constant "java/lang/Integer" 266 858993459 ∈ tb := tb_t 289 rfl (by decide +kernel)
theorem k_290 : Cond.constant "java/lang/Integer" 267 252645135 ∈ tb := tb_t 290 rfl (by decide +kernel)
theorem k_291 : Cond.methodLink "VotedTriple$VotedModule" 45 y_D_forgetLastStep ∈ tb := tb_t 291 rfl (by decide +kernel)
theorem k_292 : Cond.instanceMethod y_D_forgetLastStep ∈ tb := tb_t 292 rfl (by decide +kernel)
theorem k_293 : Cond.selects "VotedTriple$VotedModule" y_D_forgetLastStep y_D_forgetLastStep ∈ tb := tb_t 293 rfl (by decide +kernel)
theorem k_294 : Cond.code y_D_forgetLastStep b_D_forgetLastStep 1 none ∈ tb := tb_t 294 rfl (by decide +kernel)
theorem k_295 : Cond.methodLink "VotedTriple$VotedModule" 51 ⟨"VotedTriple$VotedModule", "clearEffects", "()V"⟩ ∈ tb := tb_t 295 rfl (by decide +kernel)
theorem k_296 : Cond.sameMethod "VotedTriple$VotedModule" "VotedTriple$Processor" "clearEffects" "()V" ∈ tb := tb_t 296 rfl (by decide +kernel)
theorem k_298 : Cond.selects "VotedTriple$VotedModule" ⟨"VotedTriple$VotedModule", "clearEffects", "()V"⟩ y_C_clearEffects ∈ tb := tb_t 298 rfl (by decide +kernel)
theorem k_299 : Cond.instanceMethod y_C_clearEffects ∈ tb := tb_t 299 rfl (by decide +kernel)
set_option maxRecDepth 20000 in
theorem k_300 : Cond.code y_C_clearEffects b_C_clearEffects 1 none ∈ tb := tb_t 300 rfl (by decide +kernel)
set_option maxRecDepth 20000 in
theorem k_301 : Cond.methodLink "VotedTriple$Processor" 19 y_C_wishNothing ∈ tb := tb_t 301 rfl (by decide +kernel)
set_option maxRecDepth 20000 in
theorem k_302 : Cond.instanceMethod y_C_wishNothing ∈ tb := tb_t 302 rfl (by decide +kernel)
set_option maxRecDepth 20000 in
theorem k_303 : Cond.sameMethod "VotedTriple$Processor" "VotedTriple$Processor" "wishNothing" "()V" ∈ tb := tb_t 303 rfl (by decide +kernel)
set_option maxRecDepth 20000 in
theorem k_304 : Cond.selects "VotedTriple$PerfectOne" ⟨"VotedTriple$Processor", "wishNothing", "()V"⟩ y_C_wishNothing ∈ tb := tb_t 304 rfl (by decide +kernel)
set_option maxRecDepth 20000 in
theorem k_305 : Cond.selects "VotedTriple$VotedModule" ⟨"VotedTriple$Processor", "wishNothing", "()V"⟩ y_C_wishNothing ∈ tb := tb_t 305 rfl (by decide +kernel)
set_option maxRecDepth 20000 in
theorem k_306 : Cond.code y_C_wishNothing b_C_wishNothing 1 none ∈ tb := tb_t 306 rfl (by decide +kernel)
set_option maxRecDepth 20000 in
theorem k_307 : Cond.methodLink "VotedTriple" 60 y_E_makeBlank ∈ tb := tb_t 307 rfl (by decide +kernel)
set_option maxRecDepth 20000 in
theorem k_308 : Cond.instanceMethod y_E_makeBlank ∈ tb := tb_t 308 rfl (by decide +kernel)
set_option maxRecDepth 20000 in
theorem k_309 : Cond.selects "VotedTriple$PerfectOne" y_E_makeBlank y_E_makeBlank ∈ tb := tb_t 309 rfl (by decide +kernel)
set_option maxRecDepth 20000 in
theorem k_310 : Cond.code y_E_makeBlank b_E_makeBlank 2 none ∈ tb := tb_t 310 rfl (by decide +kernel)
set_option maxRecDepth 20000 in
theorem k_311 : Cond.methodLink "VotedTriple$PerfectOne" 22 ⟨"VotedTriple$PerfectOne", "clearProcessor", "()V"⟩ ∈ tb := tb_t 311 rfl (by decide +kernel)
set_option maxRecDepth 20000 in
theorem k_312 : Cond.sameMethod "VotedTriple$PerfectOne" "VotedTriple$Processor" "clearProcessor" "()V" ∈ tb := tb_t 312 rfl (by decide +kernel)
set_option maxRecDepth 20000 in
theorem k_313 : Cond.selects "VotedTriple$PerfectOne" ⟨"VotedTriple$PerfectOne", "clearProcessor", "()V"⟩ y_C_clearProcessor ∈ tb := tb_t 313 rfl (by decide +kernel)
set_option maxRecDepth 20000 in
theorem k_314 : Cond.methodLink "VotedTriple$PerfectOne" 25 y_O_forget ∈ tb := tb_t 314 rfl (by decide +kernel)
set_option maxRecDepth 20000 in
theorem k_315 : Cond.instanceMethod y_O_forget ∈ tb := tb_t 315 rfl (by decide +kernel)
set_option maxRecDepth 20000 in
theorem k_316 : Cond.selects "VotedTriple$WordsOut" y_O_forget y_O_forget ∈ tb := tb_t 316 rfl (by decide +kernel)
set_option maxRecDepth 20000 in
theorem k_317 : Cond.code y_O_forget b_O_forget 1 none ∈ tb := tb_t 317 rfl (by decide +kernel)
set_option maxRecDepth 20000 in
theorem k_318 : Cond.methodLink "VotedTriple" 62 y_N_forget ∈ tb := tb_t 318 rfl (by decide +kernel)
set_option maxRecDepth 20000 in
theorem k_319 : Cond.instanceMethod y_N_forget ∈ tb := tb_t 319 rfl (by decide +kernel)
set_option maxRecDepth 20000 in
theorem k_320 : Cond.selects "VotedTriple$WordsIn" y_N_forget y_N_forget ∈ tb := tb_t 320 rfl (by decide +kernel)
set_option maxRecDepth 20000 in
theorem k_321 : Cond.code y_N_forget b_N_forget 1 none ∈ tb := tb_t 321 rfl (by decide +kernel)
set_option maxRecDepth 20000 in
theorem k_322 : Cond.methodLink "VotedTriple" 65 y_O_forget ∈ tb := tb_t 322 rfl (by decide +kernel)
set_option maxRecDepth 20000 in
theorem k_326 : Cond.code y_T_input b_T_input 2 (some .boolean) ∈ tb := tb_t 326 rfl (by decide +kernel)
set_option maxRecDepth 20000 in
theorem k_327 : Cond.constant "VotedTriple" 99 65535 ∈ tb := tb_t 327 rfl (by decide +kernel)
set_option maxRecDepth 20000 in
theorem k_328 : Cond.methodLink "VotedTriple" 100 y_N_add ∈ tb := tb_t 328 rfl (by decide +kernel)
set_option maxRecDepth 20000 in
theorem k_329 : Cond.instanceMethod y_N_add ∈ tb := tb_t 329 rfl (by decide +kernel)
set_option maxRecDepth 20000 in
theorem k_330 : Cond.selects "VotedTriple$WordsIn" y_N_add y_N_add ∈ tb := tb_t 330 rfl (by decide +kernel)
set_option maxRecDepth 20000 in
theorem k_331 : Cond.code y_N_add b_N_add 2 (some .boolean) ∈ tb := tb_t 331 rfl (by decide +kernel)
set_option maxRecDepth 20000 in
theorem k_335 : Cond.code y_T_freeze b_T_freeze 3 (some .boolean) ∈ tb := tb_t 335 rfl (by decide +kernel)
set_option maxRecDepth 20000 in
theorem k_336 : Cond.methodLink "VotedTriple" 119 y_T_hasModule ∈ tb := tb_t 336 rfl (by decide +kernel)
set_option maxRecDepth 20000 in
theorem k_338 : Cond.instanceMethod y_T_hasModule ∈ tb := tb_t 338 rfl (by decide +kernel)
set_option maxRecDepth 20000 in
theorem k_339 : Cond.code y_T_hasModule b_T_hasModule 2 (some .boolean) ∈ tb := tb_t 339 rfl (by decide +kernel)
set_option maxRecDepth 20000 in
theorem k_343 : Cond.code y_T_skip b_T_skip 2 (some .boolean) ∈ tb := tb_t 343 rfl (by decide +kernel)
set_option maxRecDepth 20000 in
theorem k_347 : Cond.code y_T_swap b_T_swap 3 (some .boolean) ∈ tb := tb_t 347 rfl (by decide +kernel)
set_option maxRecDepth 20000 in
theorem k_348 : Cond.methodLink "VotedTriple" 147 y_T_countInStep ∈ tb := tb_t 348 rfl (by decide +kernel)
set_option maxRecDepth 20000 in
theorem k_350 : Cond.instanceMethod y_T_countInStep ∈ tb := tb_t 350 rfl (by decide +kernel)
set_option maxRecDepth 20000 in
theorem k_351 : Cond.code y_T_countInStep b_T_countInStep 3 (some .int) ∈ tb := tb_t 351 rfl (by decide +kernel)
set_option maxRecDepth 20000 in
theorem k_352 : Cond.methodLink "VotedTriple" 154 y_T_canGoOnWith ∈ tb := tb_t 352 rfl (by decide +kernel)
set_option maxRecDepth 20000 in
theorem k_354 : Cond.instanceMethod y_T_canGoOnWith ∈ tb := tb_t 354 rfl (by decide +kernel)
set_option maxRecDepth 20000 in
theorem k_355 : Cond.code y_T_canGoOnWith b_T_canGoOnWith 2 (some .boolean) ∈ tb := tb_t 355 rfl (by decide +kernel)
set_option maxRecDepth 20000 in
theorem k_359 : Cond.code y_T_allow b_T_allow 2 none ∈ tb := tb_t 359 rfl (by decide +kernel)
set_option maxRecDepth 20000 in
theorem k_360 : Cond.methodLink "VotedTripleLaw" 82 y_T_module ∈ tb := tb_t 360 rfl (by decide +kernel)
set_option maxRecDepth 20000 in
theorem k_361 : Cond.instanceMethod y_T_module ∈ tb := tb_t 361 rfl (by decide +kernel)
set_option maxRecDepth 20000 in
theorem k_362 : Cond.selects "VotedTriple" y_T_module y_T_module ∈ tb := tb_t 362 rfl (by decide +kernel)
set_option maxRecDepth 20000 in
theorem k_363 : Cond.code y_T_module b_T_module 4 (some .int) ∈ tb := tb_t 363 rfl (by decide +kernel)
set_option maxRecDepth 20000 in
theorem k_364 : Cond.methodLink "VotedTriple" 157 y_D_shownMark ∈ tb := tb_t 364 rfl (by decide +kernel)
set_option maxRecDepth 20000 in
theorem k_365 : Cond.instanceMethod y_D_shownMark ∈ tb := tb_t 365 rfl (by decide +kernel)
set_option maxRecDepth 20000 in
theorem k_366 : Cond.selects "VotedTriple$VotedModule" y_D_shownMark y_D_shownMark ∈ tb := tb_t 366 rfl (by decide +kernel)
set_option maxRecDepth 20000 in
theorem k_367 : Cond.code y_D_shownMark b_D_shownMark 1 (some .int) ∈ tb := tb_t 367 rfl (by decide +kernel)
set_option maxRecDepth 20000 in
theorem k_371 : Cond.code y_T_register b_T_register 3 (some .int) ∈ tb := tb_t 371 rfl (by decide +kernel)
set_option maxRecDepth 20000 in
theorem k_375 : Cond.code y_T_code b_T_code 3 (some .int) ∈ tb := tb_t 375 rfl (by decide +kernel)
set_option maxRecDepth 20000 in
theorem k_379 : Cond.code y_T_state b_T_state 2 (some .int) ∈ tb := tb_t 379 rfl (by decide +kernel)
set_option maxRecDepth 20000 in
theorem k_380 : Cond.methodLink "VotedTriple" 169 y_T_currentMode ∈ tb := tb_t 380 rfl (by decide +kernel)
set_option maxRecDepth 20000 in
theorem k_382 : Cond.instanceMethod y_T_currentMode ∈ tb := tb_t 382 rfl (by decide +kernel)
set_option maxRecDepth 20000 in
theorem k_383 : Cond.code y_T_currentMode b_T_currentMode 1 (some .int) ∈ tb := tb_t 383 rfl (by decide +kernel)
set_option maxRecDepth 20000 in
theorem k_384 : Cond.methodLink "VotedTripleLaw" 43 y_L_step ∈ tb := tb_t 384 rfl (by decide +kernel)
set_option maxRecDepth 20000 in
theorem k_385 : Cond.static y_L_step ∈ tb := tb_t 385 rfl (by decide +kernel)
set_option maxRecDepth 20000 in
theorem k_386 : Cond.codeWith y_L_step b_L_step 4 (some .int) [(0, 9, 12, 13), (0, 9, 15, 15)] ∈ tb := tb_t 386 rfl (by decide +kernel)
set_option maxRecDepth 20000 in
theorem k_387 : Cond.classLink "VotedTripleLaw" 13 "java/lang/IllegalStateException" ∈ tb := tb_t 387 rfl (by decide +kernel)
set_option maxRecDepth 20000 in
theorem k_388 : Cond.classLink "VotedTripleLaw" 15 "java/lang/IllegalArgumentException" ∈ tb := tb_t 388 rfl (by decide +kernel)
set_option maxRecDepth 20000 in
theorem k_389 : Cond.methodLink "VotedTripleLaw" 7 y_T_step ∈ tb := tb_t 389 rfl (by decide +kernel)
set_option maxRecDepth 20000 in
theorem k_390 : Cond.instanceMethod y_T_step ∈ tb := tb_t 390 rfl (by decide +kernel)
set_option maxRecDepth 20000 in
theorem k_391 : Cond.selects "VotedTriple" y_T_step y_T_step ∈ tb := tb_t 391 rfl (by decide +kernel)
set_option maxRecDepth 20000 in
theorem k_392 : Cond.code y_T_step b_T_step 3 (some .int) ∈ tb := tb_t 392 rfl (by decide +kernel)
set_option maxRecDepth 20000 in
theorem k_393 : Cond.classLink "VotedTriple" 82 "java/lang/IllegalStateException" ∈ tb := tb_t 393 rfl (by decide +kernel)
set_option maxRecDepth 20000 in
theorem k_394 : Cond.instantiable "java/lang/IllegalStateException" 6 ∈ tb := tb_t 394 rfl (by decide +kernel)
set_option maxRecDepth 20000 in
theorem k_402 : Cond.selects "java/lang/IllegalStateException" ⟨"java/lang/Throwable", "fillInStackTrace", "(I)Ljava/lang/Throwable;"⟩ ⟨"java/lang/Throwable", "fillInStackTrace", "(I)Ljava/lang/Throwable;"⟩ ∈ tb := tb_t 402 rfl (by decide +kernel)
set_option maxRecDepth 20000 in
theorem k_403 : Cond.selects "java/lang/IllegalStateException" ⟨"java/lang/Throwable", "fillInStackTrace", "()Ljava/lang/Throwable;"⟩ ⟨"java/lang/Throwable", "fillInStackTrace", "()Ljava/lang/Throwable;"⟩ ∈ tb := tb_t 403 rfl (by decide +kernel)
set_option maxRecDepth 20000 in
theorem k_404 : Cond.lays "java/lang/IllegalStateException" "java/lang/Throwable" "cause" "Ljava/lang/Throwable;" ∈ tb := tb_t 404 rfl (by decide +kernel)
set_option maxRecDepth 20000 in
theorem k_405 : Cond.lays "java/lang/Throwable" "java/lang/Throwable" "cause" "Ljava/lang/Throwable;" ∈ tb := tb_t 405 rfl (by decide +kernel)
set_option maxRecDepth 20000 in
theorem k_406 : Cond.lays "java/lang/IllegalStateException" "java/lang/Throwable" "stackTrace" "[Ljava/lang/StackTraceElement;" ∈ tb := tb_t 406 rfl (by decide +kernel)
set_option maxRecDepth 20000 in
theorem k_407 : Cond.lays "java/lang/Throwable" "java/lang/Throwable" "stackTrace" "[Ljava/lang/StackTraceElement;" ∈ tb := tb_t 407 rfl (by decide +kernel)
set_option maxRecDepth 20000 in
theorem k_408 : Cond.lays "java/lang/IllegalStateException" "java/lang/Throwable" "suppressedExceptions" "Ljava/util/List;" ∈ tb := tb_t 408 rfl (by decide +kernel)
set_option maxRecDepth 20000 in
theorem k_409 : Cond.lays "java/lang/Throwable" "java/lang/Throwable" "suppressedExceptions" "Ljava/util/List;" ∈ tb := tb_t 409 rfl (by decide +kernel)
set_option maxRecDepth 20000 in
theorem k_410 : Cond.lays "java/lang/IllegalStateException" "java/lang/Throwable" "detailMessage" "Ljava/lang/String;" ∈ tb := tb_t 410 rfl (by decide +kernel)
set_option maxRecDepth 20000 in
theorem k_411 : Cond.lays "java/lang/Throwable" "java/lang/Throwable" "detailMessage" "Ljava/lang/String;" ∈ tb := tb_t 411 rfl (by decide +kernel)
set_option maxRecDepth 20000 in
theorem k_412 : Cond.lays "java/lang/IllegalStateException" "java/lang/Throwable" "backtrace" "Ljava/lang/Object;" ∈ tb := tb_t 412 rfl (by decide +kernel)
set_option maxRecDepth 20000 in
theorem k_413 : Cond.lays "java/lang/Throwable" "java/lang/Throwable" "backtrace" "Ljava/lang/Object;" ∈ tb := tb_t 413 rfl (by decide +kernel)
set_option maxRecDepth 20000 in
theorem k_414 : Cond.fieldLink "java/lang/Throwable" 198 "java/lang/Throwable" "backtrace" "Ljava/lang/Object;" ∈ tb := tb_t 414 rfl (by decide +kernel)
set_option maxRecDepth 20000 in
theorem k_415 : Cond.superclass "java/lang/Throwable" "java/lang/Object" ∈ tb := tb_t 415 rfl (by decide +kernel)
set_option maxRecDepth 20000 in
theorem k_416 : Cond.instanceMethod ⟨"java/lang/Throwable", "<init>", "()V"⟩ ∈ tb := tb_t 416 rfl (by decide +kernel)
set_option maxRecDepth 20000 in
theorem k_417 : Cond.code Bundle.tInit0 LibCode.Throwable.Init0.code 1 none ∈ tb := tb_t 417 rfl (by decide +kernel)
set_option maxRecDepth 20000 in
theorem k_418 : Cond.methodLink "java/lang/Throwable" 1 ⟨"java/lang/Object", "<init>", "()V"⟩ ∈ tb := tb_t 418 rfl (by decide +kernel)
set_option maxRecDepth 20000 in
theorem k_419 : Cond.fieldLink "java/lang/Throwable" 13 "java/lang/Throwable" "UNASSIGNED_STACK" "[Ljava/lang/StackTraceElement;" ∈ tb := tb_t 419 rfl (by decide +kernel)
set_option maxRecDepth 20000 in
theorem k_421 : Cond.fieldLink "java/lang/Throwable" 20 "java/lang/Throwable" "SUPPRESSED_SENTINEL" "Ljava/util/List;" ∈ tb := tb_t 421 rfl (by decide +kernel)
set_option maxRecDepth 20000 in
theorem k_423 : Cond.methodLink "java/lang/Throwable" 27 ⟨"java/lang/Throwable", "fillInStackTrace", "()Ljava/lang/Throwable;"⟩ ∈ tb := tb_t 423 rfl (by decide +kernel)
set_option maxRecDepth 20000 in
theorem k_424 : Cond.instanceMethod ⟨"java/lang/Throwable", "fillInStackTrace", "()Ljava/lang/Throwable;"⟩ ∈ tb := tb_t 424 rfl (by decide +kernel)
set_option maxRecDepth 20000 in
theorem k_426 : Cond.selects "java/lang/IllegalArgumentException" ⟨"java/lang/Throwable", "fillInStackTrace", "()Ljava/lang/Throwable;"⟩ ⟨"java/lang/Throwable", "fillInStackTrace", "()Ljava/lang/Throwable;"⟩ ∈ tb := tb_t 426 rfl (by decide +kernel)
set_option maxRecDepth 20000 in
theorem k_427 : Cond.selects "java/lang/IndexOutOfBoundsException" ⟨"java/lang/Throwable", "fillInStackTrace", "()Ljava/lang/Throwable;"⟩ ⟨"java/lang/Throwable", "fillInStackTrace", "()Ljava/lang/Throwable;"⟩ ∈ tb := tb_t 427 rfl (by decide +kernel)
set_option maxRecDepth 20000 in
theorem k_428 : Cond.codeSync Bundle.tFill LibCode.Throwable.Fill.code 1 (some (.object Bundle.tN)) ∈ tb := tb_t 428 rfl (by decide +kernel)
set_option maxRecDepth 20000 in
theorem k_429 : Cond.methodLink "java/lang/Throwable" 202 ⟨"java/lang/Throwable", "fillInStackTrace", "(I)Ljava/lang/Throwable;"⟩ ∈ tb := tb_t 429 rfl (by decide +kernel)
set_option maxRecDepth 20000 in
theorem k_431 : Cond.instanceMethod ⟨"java/lang/Throwable", "fillInStackTrace", "(I)Ljava/lang/Throwable;"⟩ ∈ tb := tb_t 431 rfl (by decide +kernel)
set_option maxRecDepth 20000 in
theorem k_433 : Cond.native ⟨"java/lang/Throwable", "fillInStackTrace", "(I)Ljava/lang/Throwable;"⟩ ∈ tb := tb_t 433 rfl (by decide +kernel)
set_option maxRecDepth 20000 in
theorem k_435 : Cond.methodLink "VotedTriple" 86 ⟨"java/lang/IllegalStateException", "<init>", "(Ljava/lang/String;)V"⟩ ∈ tb := tb_t 435 rfl (by decide +kernel)
set_option maxRecDepth 20000 in
theorem k_436 : Cond.instanceMethod ⟨"java/lang/IllegalStateException", "<init>", "(Ljava/lang/String;)V"⟩ ∈ tb := tb_t 436 rfl (by decide +kernel)
set_option maxRecDepth 20000 in
theorem k_437 : Cond.code (Bundle.initS "java/lang/IllegalStateException") Bundle.six 2 none ∈ tb := tb_t 437 rfl (by decide +kernel)
set_option maxRecDepth 20000 in
theorem k_438 : Cond.methodLink "java/lang/IllegalStateException" 7 ⟨"java/lang/RuntimeException", "<init>", "(Ljava/lang/String;)V"⟩ ∈ tb := tb_t 438 rfl (by decide +kernel)
set_option maxRecDepth 20000 in
theorem k_439 : Cond.instanceMethod ⟨"java/lang/RuntimeException", "<init>", "(Ljava/lang/String;)V"⟩ ∈ tb := tb_t 439 rfl (by decide +kernel)
set_option maxRecDepth 20000 in
theorem k_440 : Cond.code (Bundle.initS "java/lang/RuntimeException") Bundle.six 2 none ∈ tb := tb_t 440 rfl (by decide +kernel)
set_option maxRecDepth 20000 in
theorem k_441 : Cond.methodLink "java/lang/RuntimeException" 7 ⟨"java/lang/Exception", "<init>", "(Ljava/lang/String;)V"⟩ ∈ tb := tb_t 441 rfl (by decide +kernel)
set_option maxRecDepth 20000 in
theorem k_442 : Cond.instanceMethod ⟨"java/lang/Exception", "<init>", "(Ljava/lang/String;)V"⟩ ∈ tb := tb_t 442 rfl (by decide +kernel)
set_option maxRecDepth 20000 in
theorem k_443 : Cond.code (Bundle.initS "java/lang/Exception") Bundle.six 2 none ∈ tb := tb_t 443 rfl (by decide +kernel)
set_option maxRecDepth 20000 in
theorem k_444 : Cond.methodLink "java/lang/Exception" 7 ⟨"java/lang/Throwable", "<init>", "(Ljava/lang/String;)V"⟩ ∈ tb := tb_t 444 rfl (by decide +kernel)
set_option maxRecDepth 20000 in
theorem k_445 : Cond.instanceMethod ⟨"java/lang/Throwable", "<init>", "(Ljava/lang/String;)V"⟩ ∈ tb := tb_t 445 rfl (by decide +kernel)
set_option maxRecDepth 20000 in
theorem k_446 : Cond.code (Bundle.initS Bundle.tN) LibCode.Throwable.InitS.code 2 none ∈ tb := tb_t 446 rfl (by decide +kernel)
set_option maxRecDepth 20000 in
theorem k_448 : Cond.fieldLink "java/lang/Throwable" 31 "java/lang/Throwable" "detailMessage" "Ljava/lang/String;" ∈ tb := tb_t 448 rfl (by decide +kernel)
set_option maxRecDepth 20000 in
theorem k_449 : Cond.fieldLink "java/lang/Throwable" 7 "java/lang/Throwable" "cause" "Ljava/lang/Throwable;" ∈ tb := tb_t 449 rfl (by decide +kernel)
set_option maxRecDepth 20000 in
theorem k_450 : Cond.fieldLink "java/lang/Throwable" 17 "java/lang/Throwable" "stackTrace" "[Ljava/lang/StackTraceElement;" ∈ tb := tb_t 450 rfl (by decide +kernel)
set_option maxRecDepth 20000 in
theorem k_451 : Cond.fieldLink "java/lang/Throwable" 24 "java/lang/Throwable" "suppressedExceptions" "Ljava/util/List;" ∈ tb := tb_t 451 rfl (by decide +kernel)
set_option maxRecDepth 20000 in
theorem k_461 : Cond.classLink "VotedTriple" 89 "java/lang/IllegalArgumentException" ∈ tb := tb_t 461 rfl (by decide +kernel)
set_option maxRecDepth 20000 in
theorem k_462 : Cond.instantiable "java/lang/IllegalArgumentException" 6 ∈ tb := tb_t 462 rfl (by decide +kernel)
set_option maxRecDepth 20000 in
theorem k_464 : Cond.selects "java/lang/IllegalArgumentException" ⟨"java/lang/Throwable", "fillInStackTrace", "(I)Ljava/lang/Throwable;"⟩ ⟨"java/lang/Throwable", "fillInStackTrace", "(I)Ljava/lang/Throwable;"⟩ ∈ tb := tb_t 464 rfl (by decide +kernel)
set_option maxRecDepth 20000 in
theorem k_465 : Cond.lays "java/lang/IllegalArgumentException" "java/lang/Throwable" "cause" "Ljava/lang/Throwable;" ∈ tb := tb_t 465 rfl (by decide +kernel)
set_option maxRecDepth 20000 in
theorem k_466 : Cond.lays "java/lang/IllegalArgumentException" "java/lang/Throwable" "stackTrace" "[Ljava/lang/StackTraceElement;" ∈ tb := tb_t 466 rfl (by decide +kernel)
set_option maxRecDepth 20000 in
theorem k_467 : Cond.lays "java/lang/IllegalArgumentException" "java/lang/Throwable" "suppressedExceptions" "Ljava/util/List;" ∈ tb := tb_t 467 rfl (by decide +kernel)
set_option maxRecDepth 20000 in
theorem k_468 : Cond.lays "java/lang/IllegalArgumentException" "java/lang/Throwable" "detailMessage" "Ljava/lang/String;" ∈ tb := tb_t 468 rfl (by decide +kernel)
set_option maxRecDepth 20000 in
theorem k_469 : Cond.lays "java/lang/IllegalArgumentException" "java/lang/Throwable" "backtrace" "Ljava/lang/Object;" ∈ tb := tb_t 469 rfl (by decide +kernel)
set_option maxRecDepth 20000 in
theorem k_471 : Cond.methodLink "VotedTriple" 93 ⟨"java/lang/IllegalArgumentException", "<init>", "(Ljava/lang/String;)V"⟩ ∈ tb := tb_t 471 rfl (by decide +kernel)
set_option maxRecDepth 20000 in
theorem k_472 : Cond.instanceMethod ⟨"java/lang/IllegalArgumentException", "<init>", "(Ljava/lang/String;)V"⟩ ∈ tb := tb_t 472 rfl (by decide +kernel)
set_option maxRecDepth 20000 in
theorem k_473 : Cond.code (Bundle.initS "java/lang/IllegalArgumentException") Bundle.six 2 none ∈ tb := tb_t 473 rfl (by decide +kernel)
set_option maxRecDepth 20000 in
theorem k_474 : Cond.methodLink "java/lang/IllegalArgumentException" 7 ⟨"java/lang/RuntimeException", "<init>", "(Ljava/lang/String;)V"⟩ ∈ tb := tb_t 474 rfl (by decide +kernel)
set_option maxRecDepth 20000 in
theorem k_477 : Cond.methodLink "VotedTriple" 94 y_T_doOneStep ∈ tb := tb_t 477 rfl (by decide +kernel)
set_option maxRecDepth 20000 in
theorem k_479 : Cond.instanceMethod y_T_doOneStep ∈ tb := tb_t 479 rfl (by decide +kernel)
set_option maxRecDepth 20000 in
theorem k_480 : Cond.code y_T_doOneStep b_T_doOneStep 2 none ∈ tb := tb_t 480 rfl (by decide +kernel)
set_option maxRecDepth 20000 in
theorem k_481 : Cond.methodLink "VotedTriple" 179 y_E_doInstruction ∈ tb := tb_t 481 rfl (by decide +kernel)
set_option maxRecDepth 20000 in
theorem k_482 : Cond.instanceMethod y_E_doInstruction ∈ tb := tb_t 482 rfl (by decide +kernel)
set_option maxRecDepth 20000 in
theorem k_483 : Cond.selects "VotedTriple$PerfectOne" y_E_doInstruction y_E_doInstruction ∈ tb := tb_t 483 rfl (by decide +kernel)
set_option maxRecDepth 20000 in
theorem k_484 : Cond.code y_E_doInstruction b_E_doInstruction 3 none ∈ tb := tb_t 484 rfl (by decide +kernel)
set_option maxRecDepth 20000 in
theorem k_485 : Cond.methodLink "VotedTriple$PerfectOne" 32 ⟨"VotedTriple$PerfectOne", "clearEffects", "()V"⟩ ∈ tb := tb_t 485 rfl (by decide +kernel)
set_option maxRecDepth 20000 in
theorem k_486 : Cond.sameMethod "VotedTriple$PerfectOne" "VotedTriple$Processor" "clearEffects" "()V" ∈ tb := tb_t 486 rfl (by decide +kernel)
set_option maxRecDepth 20000 in
theorem k_487 : Cond.selects "VotedTriple$PerfectOne" ⟨"VotedTriple$PerfectOne", "clearEffects", "()V"⟩ y_C_clearEffects ∈ tb := tb_t 487 rfl (by decide +kernel)
set_option maxRecDepth 20000 in
theorem k_488 : Cond.methodLink "VotedTriple$PerfectOne" 35 ⟨"VotedTriple$PerfectOne", "execute", "(LVotedTriple$Program;)V"⟩ ∈ tb := tb_t 488 rfl (by decide +kernel)
set_option maxRecDepth 20000 in
theorem k_489 : Cond.sameMethod "VotedTriple$PerfectOne" "VotedTriple$Processor" "execute" "(LVotedTriple$Program;)V" ∈ tb := tb_t 489 rfl (by decide +kernel)
set_option maxRecDepth 20000 in
theorem k_491 : Cond.selects "VotedTriple$PerfectOne" ⟨"VotedTriple$PerfectOne", "execute", "(LVotedTriple$Program;)V"⟩ y_C_execute ∈ tb := tb_t 491 rfl (by decide +kernel)
set_option maxRecDepth 20000 in
theorem k_492 : Cond.instanceMethod y_C_execute ∈ tb := tb_t 492 rfl (by decide +kernel)
set_option maxRecDepth 20000 in
theorem k_493 : Cond.code y_C_execute b_C_execute 6 none ∈ tb := tb_t 493 rfl (by decide +kernel)
set_option maxRecDepth 20000 in
theorem k_494 : Cond.methodLink "VotedTriple$Processor" 40 y_P_instructionAt ∈ tb := tb_t 494 rfl (by decide +kernel)
set_option maxRecDepth 20000 in
theorem k_495 : Cond.instanceMethod y_P_instructionAt ∈ tb := tb_t 495 rfl (by decide +kernel)
set_option maxRecDepth 20000 in
theorem k_496 : Cond.selects "VotedTriple$Program" y_P_instructionAt y_P_instructionAt ∈ tb := tb_t 496 rfl (by decide +kernel)
set_option maxRecDepth 20000 in
theorem k_497 : Cond.code y_P_instructionAt b_P_instructionAt 2 (some .int) ∈ tb := tb_t 497 rfl (by decide +kernel)
set_option maxRecDepth 20000 in
theorem k_498 : Cond.methodLink "VotedTriple$Program" 30 y_P_wrap ∈ tb := tb_t 498 rfl (by decide +kernel)
set_option maxRecDepth 20000 in
theorem k_499 : Cond.instanceMethod y_P_wrap ∈ tb := tb_t 499 rfl (by decide +kernel)
set_option maxRecDepth 20000 in
theorem k_500 : Cond.selects "VotedTriple$Program" y_P_wrap y_P_wrap ∈ tb := tb_t 500 rfl (by decide +kernel)
set_option maxRecDepth 20000 in
theorem k_501 : Cond.code y_P_wrap b_P_wrap 2 (some .int) ∈ tb := tb_t 501 rfl (by decide +kernel)
set_option maxRecDepth 20000 in
theorem k_502 : Cond.methodLink "VotedTriple$Processor" 43 y_C_passOver ∈ tb := tb_t 502 rfl (by decide +kernel)
set_option maxRecDepth 20000 in
theorem k_503 : Cond.instanceMethod y_C_passOver ∈ tb := tb_t 503 rfl (by decide +kernel)
set_option maxRecDepth 20000 in
theorem k_504 : Cond.sameMethod "VotedTriple$Processor" "VotedTriple$Processor" "passOver" "(LVotedTriple$Program;)V" ∈ tb := tb_t 504 rfl (by decide +kernel)
set_option maxRecDepth 20000 in
theorem k_505 : Cond.selects "VotedTriple$PerfectOne" ⟨"VotedTriple$Processor", "passOver", "(LVotedTriple$Program;)V"⟩ y_C_passOver ∈ tb := tb_t 505 rfl (by decide +kernel)
set_option maxRecDepth 20000 in
theorem k_506 : Cond.selects "VotedTriple$VotedModule" ⟨"VotedTriple$Processor", "passOver", "(LVotedTriple$Program;)V"⟩ y_C_passOver ∈ tb := tb_t 506 rfl (by decide +kernel)
set_option maxRecDepth 20000 in
theorem k_507 : Cond.code y_C_passOver b_C_passOver 2 none ∈ tb := tb_t 507 rfl (by decide +kernel)
set_option maxRecDepth 20000 in
theorem k_508 : Cond.methodLink "VotedTriple$Processor" 34 y_P_wrap ∈ tb := tb_t 508 rfl (by decide +kernel)
set_option maxRecDepth 20000 in
theorem k_509 : Cond.methodLink "VotedTriple$Processor" 47 y_P_aOf ∈ tb := tb_t 509 rfl (by decide +kernel)
set_option maxRecDepth 20000 in
theorem k_510 : Cond.methodLink "VotedTriple$Processor" 50 y_P_bOf ∈ tb := tb_t 510 rfl (by decide +kernel)
set_option maxRecDepth 20000 in
theorem k_511 : Cond.methodLink "VotedTriple$Processor" 53 y_P_cOf ∈ tb := tb_t 511 rfl (by decide +kernel)
set_option maxRecDepth 20000 in
theorem k_512 : Cond.methodLink "VotedTriple$Processor" 56 y_P_opOf ∈ tb := tb_t 512 rfl (by decide +kernel)
set_option maxRecDepth 20000 in
theorem k_513 : Cond.methodLink "VotedTriple$Processor" 59 ⟨"VotedTriple$Processor", "readWord", "(I)I"⟩ ∈ tb := tb_t 513 rfl (by decide +kernel)
set_option maxRecDepth 20000 in
theorem k_515 : Cond.sameMethod "VotedTriple$Processor" "VotedTriple$Processor" "readWord" "(I)I" ∈ tb := tb_t 515 rfl (by decide +kernel)
set_option maxRecDepth 20000 in
theorem k_516 : Cond.selects "VotedTriple$PerfectOne" ⟨"VotedTriple$Processor", "readWord", "(I)I"⟩ y_E_readWord ∈ tb := tb_t 516 rfl (by decide +kernel)
set_option maxRecDepth 20000 in
theorem k_517 : Cond.instanceMethod y_E_readWord ∈ tb := tb_t 517 rfl (by decide +kernel)
set_option maxRecDepth 20000 in
theorem k_518 : Cond.code y_E_readWord b_E_readWord 2 (some .int) ∈ tb := tb_t 518 rfl (by decide +kernel)
set_option maxRecDepth 20000 in
theorem k_519 : Cond.selects "VotedTriple$VotedModule" ⟨"VotedTriple$Processor", "readWord", "(I)I"⟩ y_D_readWord ∈ tb := tb_t 519 rfl (by decide +kernel)
set_option maxRecDepth 20000 in
theorem k_520 : Cond.instanceMethod y_D_readWord ∈ tb := tb_t 520 rfl (by decide +kernel)
set_option maxRecDepth 20000 in
theorem k_521 : Cond.code y_D_readWord b_D_readWord 2 (some .int) ∈ tb := tb_t 521 rfl (by decide +kernel)
set_option maxRecDepth 20000 in
theorem k_522 : Cond.methodLink "VotedTriple$VotedModule" 72 y_D_findsSpoilt ∈ tb := tb_t 522 rfl (by decide +kernel)
set_option maxRecDepth 20000 in
theorem k_523 : Cond.instanceMethod y_D_findsSpoilt ∈ tb := tb_t 523 rfl (by decide +kernel)
set_option maxRecDepth 20000 in
theorem k_524 : Cond.selects "VotedTriple$VotedModule" y_D_findsSpoilt y_D_findsSpoilt ∈ tb := tb_t 524 rfl (by decide +kernel)
set_option maxRecDepth 20000 in
theorem k_525 : Cond.code y_D_findsSpoilt b_D_findsSpoilt 3 (some .boolean) ∈ tb := tb_t 525 rfl (by decide +kernel)
set_option maxRecDepth 20000 in
theorem k_526 : Cond.methodLink "VotedTriple$VotedModule" 83 y_K_exclusiveOr ∈ tb := tb_t 526 rfl (by decide +kernel)
set_option maxRecDepth 20000 in
theorem k_527 : Cond.methodLink "VotedTriple$VotedModule" 86 y_I_bitCount ∈ tb := tb_t 527 rfl (by decide +kernel)
set_option maxRecDepth 20000 in
theorem k_528 : Cond.methodLink "VotedTriple$VotedModule" 76 y_K_wordOf ∈ tb := tb_t 528 rfl (by decide +kernel)
set_option maxRecDepth 20000 in
theorem k_529 : Cond.static y_K_wordOf ∈ tb := tb_t 529 rfl (by decide +kernel)
set_option maxRecDepth 20000 in
theorem k_530 : Cond.code y_K_wordOf b_K_wordOf 1 (some .int) ∈ tb := tb_t 530 rfl (by decide +kernel)
set_option maxRecDepth 20000 in
theorem k_531 : Cond.methodLink "VotedTriple$Processor" 65 ⟨"VotedTriple$Processor", "writeWord", "(II)V"⟩ ∈ tb := tb_t 531 rfl (by decide +kernel)
set_option maxRecDepth 20000 in
theorem k_533 : Cond.sameMethod "VotedTriple$Processor" "VotedTriple$Processor" "writeWord" "(II)V" ∈ tb := tb_t 533 rfl (by decide +kernel)
set_option maxRecDepth 20000 in
theorem k_534 : Cond.selects "VotedTriple$PerfectOne" ⟨"VotedTriple$Processor", "writeWord", "(II)V"⟩ y_E_writeWord ∈ tb := tb_t 534 rfl (by decide +kernel)
set_option maxRecDepth 20000 in
theorem k_535 : Cond.instanceMethod y_E_writeWord ∈ tb := tb_t 535 rfl (by decide +kernel)
set_option maxRecDepth 20000 in
theorem k_536 : Cond.code y_E_writeWord b_E_writeWord 3 none ∈ tb := tb_t 536 rfl (by decide +kernel)
set_option maxRecDepth 20000 in
theorem k_537 : Cond.selects "VotedTriple$VotedModule" ⟨"VotedTriple$Processor", "writeWord", "(II)V"⟩ y_D_writeWord ∈ tb := tb_t 537 rfl (by decide +kernel)
set_option maxRecDepth 20000 in
theorem k_538 : Cond.methodLink "VotedTriple$Processor" 69 y_C_reckon ∈ tb := tb_t 538 rfl (by decide +kernel)
set_option maxRecDepth 20000 in
theorem k_539 : Cond.static y_C_reckon ∈ tb := tb_t 539 rfl (by decide +kernel)
set_option maxRecDepth 20000 in
theorem k_540 : Cond.code y_C_reckon b_C_reckon 3 (some .int) ∈ tb := tb_t 540 rfl (by decide +kernel)
set_option maxRecDepth 20000 in
theorem k_541 : Cond.constant "VotedTriple$Processor" 75 65535 ∈ tb := tb_t 541 rfl (by decide +kernel)
set_option maxRecDepth 20000 in
theorem k_542 : Cond.methodLink "VotedTriple$PerfectOne" 42 y_N_wordAt ∈ tb := tb_t 542 rfl (by decide +kernel)
set_option maxRecDepth 20000 in
theorem k_543 : Cond.instanceMethod y_N_wordAt ∈ tb := tb_t 543 rfl (by decide +kernel)
set_option maxRecDepth 20000 in
theorem k_544 : Cond.selects "VotedTriple$WordsIn" y_N_wordAt y_N_wordAt ∈ tb := tb_t 544 rfl (by decide +kernel)
set_option maxRecDepth 20000 in
theorem k_545 : Cond.code y_N_wordAt b_N_wordAt 2 (some .int) ∈ tb := tb_t 545 rfl (by decide +kernel)
set_option maxRecDepth 20000 in
theorem k_546 : Cond.methodLink "VotedTriple$PerfectOne" 48 ⟨"VotedTriple$PerfectOne", "receive", "(I)V"⟩ ∈ tb := tb_t 546 rfl (by decide +kernel)
set_option maxRecDepth 20000 in
theorem k_547 : Cond.sameMethod "VotedTriple$PerfectOne" "VotedTriple$Processor" "receive" "(I)V" ∈ tb := tb_t 547 rfl (by decide +kernel)
set_option maxRecDepth 20000 in
theorem k_549 : Cond.selects "VotedTriple$PerfectOne" ⟨"VotedTriple$PerfectOne", "receive", "(I)V"⟩ y_C_receive ∈ tb := tb_t 549 rfl (by decide +kernel)
set_option maxRecDepth 20000 in
theorem k_550 : Cond.instanceMethod y_C_receive ∈ tb := tb_t 550 rfl (by decide +kernel)
set_option maxRecDepth 20000 in
theorem k_551 : Cond.code y_C_receive b_C_receive 2 none ∈ tb := tb_t 551 rfl (by decide +kernel)
set_option maxRecDepth 20000 in
theorem k_552 : Cond.methodLink "VotedTriple$PerfectOne" 58 y_O_add ∈ tb := tb_t 552 rfl (by decide +kernel)
set_option maxRecDepth 20000 in
theorem k_553 : Cond.instanceMethod y_O_add ∈ tb := tb_t 553 rfl (by decide +kernel)
set_option maxRecDepth 20000 in
theorem k_554 : Cond.selects "VotedTriple$WordsOut" y_O_add y_O_add ∈ tb := tb_t 554 rfl (by decide +kernel)
set_option maxRecDepth 20000 in
theorem k_555 : Cond.code y_O_add b_O_add 2 none ∈ tb := tb_t 555 rfl (by decide +kernel)
set_option maxRecDepth 20000 in
theorem k_556 : Cond.methodLink "VotedTriple" 183 y_T_doInstructions ∈ tb := tb_t 556 rfl (by decide +kernel)
set_option maxRecDepth 20000 in
theorem k_558 : Cond.instanceMethod y_T_doInstructions ∈ tb := tb_t 558 rfl (by decide +kernel)
set_option maxRecDepth 20000 in
theorem k_559 : Cond.code y_T_doInstructions b_T_doInstructions 2 none ∈ tb := tb_t 559 rfl (by decide +kernel)
set_option maxRecDepth 20000 in
theorem k_560 : Cond.methodLink "VotedTriple" 211 y_D_forgetLastStep ∈ tb := tb_t 560 rfl (by decide +kernel)
set_option maxRecDepth 20000 in
theorem k_561 : Cond.methodLink "VotedTriple" 214 ⟨"VotedTriple$VotedModule", "passOver", "(LVotedTriple$Program;)V"⟩ ∈ tb := tb_t 561 rfl (by decide +kernel)
set_option maxRecDepth 20000 in
theorem k_562 : Cond.sameMethod "VotedTriple$VotedModule" "VotedTriple$Processor" "passOver" "(LVotedTriple$Program;)V" ∈ tb := tb_t 562 rfl (by decide +kernel)
set_option maxRecDepth 20000 in
theorem k_564 : Cond.selects "VotedTriple$VotedModule" ⟨"VotedTriple$VotedModule", "passOver", "(LVotedTriple$Program;)V"⟩ y_C_passOver ∈ tb := tb_t 564 rfl (by decide +kernel)
set_option maxRecDepth 20000 in
theorem k_565 : Cond.methodLink "VotedTriple" 218 ⟨"VotedTriple$VotedModule", "execute", "(LVotedTriple$Program;)V"⟩ ∈ tb := tb_t 565 rfl (by decide +kernel)
set_option maxRecDepth 20000 in
theorem k_566 : Cond.sameMethod "VotedTriple$VotedModule" "VotedTriple$Processor" "execute" "(LVotedTriple$Program;)V" ∈ tb := tb_t 566 rfl (by decide +kernel)
set_option maxRecDepth 20000 in
theorem k_567 : Cond.selects "VotedTriple$VotedModule" ⟨"VotedTriple$VotedModule", "execute", "(LVotedTriple$Program;)V"⟩ y_C_execute ∈ tb := tb_t 567 rfl (by decide +kernel)
set_option maxRecDepth 20000 in
theorem k_568 : Cond.methodLink "VotedTriple" 221 ⟨"VotedTriple$VotedModule", "wishNothing", "()V"⟩ ∈ tb := tb_t 568 rfl (by decide +kernel)
set_option maxRecDepth 20000 in
theorem k_569 : Cond.sameMethod "VotedTriple$VotedModule" "VotedTriple$Processor" "wishNothing" "()V" ∈ tb := tb_t 569 rfl (by decide +kernel)
set_option maxRecDepth 20000 in
theorem k_571 : Cond.selects "VotedTriple$VotedModule" ⟨"VotedTriple$VotedModule", "wishNothing", "()V"⟩ y_C_wishNothing ∈ tb := tb_t 571 rfl (by decide +kernel)
set_option maxRecDepth 20000 in
theorem k_572 : Cond.methodLink "VotedTriple" 186 y_T_vote ∈ tb := tb_t 572 rfl (by decide +kernel)
set_option maxRecDepth 20000 in
theorem k_574 : Cond.instanceMethod y_T_vote ∈ tb := tb_t 574 rfl (by decide +kernel)
set_option maxRecDepth 20000 in
theorem k_575 : Cond.code y_T_vote b_T_vote 3 (some .int) ∈ tb := tb_t 575 rfl (by decide +kernel)
set_option maxRecDepth 20000 in
theorem k_576 : Cond.methodLink "VotedTriple" 224 y_T_lowestTrusted ∈ tb := tb_t 576 rfl (by decide +kernel)
set_option maxRecDepth 20000 in
theorem k_578 : Cond.instanceMethod y_T_lowestTrusted ∈ tb := tb_t 578 rfl (by decide +kernel)
set_option maxRecDepth 20000 in
theorem k_579 : Cond.code y_T_lowestTrusted b_T_lowestTrusted 2 (some .int) ∈ tb := tb_t 579 rfl (by decide +kernel)
set_option maxRecDepth 20000 in
theorem k_580 : Cond.methodLink "VotedTriple" 248 y_D_isTrusted ∈ tb := tb_t 580 rfl (by decide +kernel)
set_option maxRecDepth 20000 in
theorem k_581 : Cond.instanceMethod y_D_isTrusted ∈ tb := tb_t 581 rfl (by decide +kernel)
set_option maxRecDepth 20000 in
theorem k_582 : Cond.selects "VotedTriple$VotedModule" y_D_isTrusted y_D_isTrusted ∈ tb := tb_t 582 rfl (by decide +kernel)
set_option maxRecDepth 20000 in
theorem k_583 : Cond.code y_D_isTrusted b_D_isTrusted 1 (some .boolean) ∈ tb := tb_t 583 rfl (by decide +kernel)
set_option maxRecDepth 20000 in
theorem k_584 : Cond.methodLink "VotedTriple" 227 y_D_wishAsBallot ∈ tb := tb_t 584 rfl (by decide +kernel)
set_option maxRecDepth 20000 in
theorem k_585 : Cond.instanceMethod y_D_wishAsBallot ∈ tb := tb_t 585 rfl (by decide +kernel)
set_option maxRecDepth 20000 in
theorem k_586 : Cond.selects "VotedTriple$VotedModule" y_D_wishAsBallot y_D_wishAsBallot ∈ tb := tb_t 586 rfl (by decide +kernel)
set_option maxRecDepth 20000 in
theorem k_587 : Cond.code y_D_wishAsBallot b_D_wishAsBallot 1 (some .int) ∈ tb := tb_t 587 rfl (by decide +kernel)
set_option maxRecDepth 20000 in
theorem k_588 : Cond.methodLink "VotedTriple" 233 y_T_countBallots ∈ tb := tb_t 588 rfl (by decide +kernel)
set_option maxRecDepth 20000 in
theorem k_590 : Cond.instanceMethod y_T_countBallots ∈ tb := tb_t 590 rfl (by decide +kernel)
set_option maxRecDepth 20000 in
theorem k_591 : Cond.code y_T_countBallots b_T_countBallots 4 (some .int) ∈ tb := tb_t 591 rfl (by decide +kernel)
set_option maxRecDepth 20000 in
theorem k_592 : Cond.methodLink "VotedTriple" 236 y_T_countTrusted ∈ tb := tb_t 592 rfl (by decide +kernel)
set_option maxRecDepth 20000 in
theorem k_594 : Cond.instanceMethod y_T_countTrusted ∈ tb := tb_t 594 rfl (by decide +kernel)
set_option maxRecDepth 20000 in
theorem k_595 : Cond.code y_T_countTrusted b_T_countTrusted 3 (some .int) ∈ tb := tb_t 595 rfl (by decide +kernel)
set_option maxRecDepth 20000 in
theorem k_596 : Cond.methodLink "VotedTriple" 239 y_T_oneOfTheAlikePair ∈ tb := tb_t 596 rfl (by decide +kernel)
set_option maxRecDepth 20000 in
theorem k_598 : Cond.instanceMethod y_T_oneOfTheAlikePair ∈ tb := tb_t 598 rfl (by decide +kernel)
set_option maxRecDepth 20000 in
theorem k_599 : Cond.code y_T_oneOfTheAlikePair b_T_oneOfTheAlikePair 2 (some .int) ∈ tb := tb_t 599 rfl (by decide +kernel)
set_option maxRecDepth 20000 in
theorem k_600 : Cond.methodLink "VotedTriple" 242 y_T_soundOneOfTwo ∈ tb := tb_t 600 rfl (by decide +kernel)
set_option maxRecDepth 20000 in
theorem k_602 : Cond.instanceMethod y_T_soundOneOfTwo ∈ tb := tb_t 602 rfl (by decide +kernel)
set_option maxRecDepth 20000 in
theorem k_603 : Cond.code y_T_soundOneOfTwo b_T_soundOneOfTwo 4 (some .int) ∈ tb := tb_t 603 rfl (by decide +kernel)
set_option maxRecDepth 20000 in
theorem k_604 : Cond.methodLink "VotedTriple" 245 y_T_nameAllUnlike ∈ tb := tb_t 604 rfl (by decide +kernel)
set_option maxRecDepth 20000 in
theorem k_606 : Cond.instanceMethod y_T_nameAllUnlike ∈ tb := tb_t 606 rfl (by decide +kernel)
set_option maxRecDepth 20000 in
theorem k_607 : Cond.code y_T_nameAllUnlike b_T_nameAllUnlike 3 none ∈ tb := tb_t 607 rfl (by decide +kernel)
set_option maxRecDepth 20000 in
theorem k_608 : Cond.methodLink "VotedTriple" 254 y_D_blameLater ∈ tb := tb_t 608 rfl (by decide +kernel)
set_option maxRecDepth 20000 in
theorem k_609 : Cond.instanceMethod y_D_blameLater ∈ tb := tb_t 609 rfl (by decide +kernel)
set_option maxRecDepth 20000 in
theorem k_610 : Cond.selects "VotedTriple$VotedModule" y_D_blameLater y_D_blameLater ∈ tb := tb_t 610 rfl (by decide +kernel)
set_option maxRecDepth 20000 in
theorem k_611 : Cond.code y_D_blameLater b_D_blameLater 1 none ∈ tb := tb_t 611 rfl (by decide +kernel)
set_option maxRecDepth 20000 in
theorem k_612 : Cond.methodLink "VotedTriple" 189 y_T_doWhatIsAgreed ∈ tb := tb_t 612 rfl (by decide +kernel)
set_option maxRecDepth 20000 in
theorem k_614 : Cond.instanceMethod y_T_doWhatIsAgreed ∈ tb := tb_t 614 rfl (by decide +kernel)
set_option maxRecDepth 20000 in
theorem k_615 : Cond.code y_T_doWhatIsAgreed b_T_doWhatIsAgreed 4 none ∈ tb := tb_t 615 rfl (by decide +kernel)
set_option maxRecDepth 20000 in
theorem k_616 : Cond.methodLink "VotedTriple" 262 y_T_takeWord ∈ tb := tb_t 616 rfl (by decide +kernel)
set_option maxRecDepth 20000 in
theorem k_618 : Cond.instanceMethod y_T_takeWord ∈ tb := tb_t 618 rfl (by decide +kernel)
set_option maxRecDepth 20000 in
theorem k_619 : Cond.code y_T_takeWord b_T_takeWord 2 (some .int) ∈ tb := tb_t 619 rfl (by decide +kernel)
set_option maxRecDepth 20000 in
theorem k_620 : Cond.methodLink "VotedTriple" 273 y_N_wordAt ∈ tb := tb_t 620 rfl (by decide +kernel)
set_option maxRecDepth 20000 in
theorem k_621 : Cond.methodLink "VotedTriple" 268 y_O_add ∈ tb := tb_t 621 rfl (by decide +kernel)
set_option maxRecDepth 20000 in
theorem k_622 : Cond.methodLink "VotedTriple" 270 ⟨"VotedTriple$VotedModule", "receive", "(I)V"⟩ ∈ tb := tb_t 622 rfl (by decide +kernel)
set_option maxRecDepth 20000 in
theorem k_623 : Cond.sameMethod "VotedTriple$VotedModule" "VotedTriple$Processor" "receive" "(I)V" ∈ tb := tb_t 623 rfl (by decide +kernel)
set_option maxRecDepth 20000 in
theorem k_624 : Cond.selects "VotedTriple$VotedModule" ⟨"VotedTriple$VotedModule", "receive", "(I)V"⟩ y_C_receive ∈ tb := tb_t 624 rfl (by decide +kernel)
set_option maxRecDepth 20000 in
theorem k_625 : Cond.methodLink "VotedTriple" 193 y_T_storeInCopies ∈ tb := tb_t 625 rfl (by decide +kernel)
set_option maxRecDepth 20000 in
theorem k_627 : Cond.instanceMethod y_T_storeInCopies ∈ tb := tb_t 627 rfl (by decide +kernel)
set_option maxRecDepth 20000 in
theorem k_628 : Cond.code y_T_storeInCopies b_T_storeInCopies 4 none ∈ tb := tb_t 628 rfl (by decide +kernel)
set_option maxRecDepth 20000 in
theorem k_629 : Cond.methodLink "VotedTriple" 285 y_D_writeWord ∈ tb := tb_t 629 rfl (by decide +kernel)
set_option maxRecDepth 20000 in
theorem k_630 : Cond.methodLink "VotedTriple" 196 y_T_scrub ∈ tb := tb_t 630 rfl (by decide +kernel)
set_option maxRecDepth 20000 in
theorem k_632 : Cond.instanceMethod y_T_scrub ∈ tb := tb_t 632 rfl (by decide +kernel)
set_option maxRecDepth 20000 in
theorem k_633 : Cond.code y_T_scrub b_T_scrub 4 (some .boolean) ∈ tb := tb_t 633 rfl (by decide +kernel)
set_option maxRecDepth 20000 in
theorem k_634 : Cond.methodLink "VotedTriple" 289 y_D_findsSpoilt ∈ tb := tb_t 634 rfl (by decide +kernel)
set_option maxRecDepth 20000 in
theorem k_635 : Cond.methodLink "VotedTriple" 199 y_T_compareDigests ∈ tb := tb_t 635 rfl (by decide +kernel)
set_option maxRecDepth 20000 in
theorem k_637 : Cond.instanceMethod y_T_compareDigests ∈ tb := tb_t 637 rfl (by decide +kernel)
set_option maxRecDepth 20000 in
theorem k_638 : Cond.code y_T_compareDigests b_T_compareDigests 3 (some .boolean) ∈ tb := tb_t 638 rfl (by decide +kernel)
set_option maxRecDepth 20000 in
theorem k_639 : Cond.methodLink "VotedTriple" 295 y_D_digest ∈ tb := tb_t 639 rfl (by decide +kernel)
set_option maxRecDepth 20000 in
theorem k_640 : Cond.instanceMethod y_D_digest ∈ tb := tb_t 640 rfl (by decide +kernel)
set_option maxRecDepth 20000 in
theorem k_641 : Cond.selects "VotedTriple$VotedModule" y_D_digest y_D_digest ∈ tb := tb_t 641 rfl (by decide +kernel)
set_option maxRecDepth 20000 in
theorem k_642 : Cond.code y_D_digest b_D_digest 4 (some .int) ∈ tb := tb_t 642 rfl (by decide +kernel)
set_option maxRecDepth 20000 in
theorem k_643 : Cond.constant "VotedTriple$VotedModule" 71 65535 ∈ tb := tb_t 643 rfl (by decide +kernel)
set_option maxRecDepth 20000 in
theorem k_644 : Cond.methodLink "VotedTriple" 202 y_T_blameNamed ∈ tb := tb_t 644 rfl (by decide +kernel)
set_option maxRecDepth 20000 in
theorem k_646 : Cond.instanceMethod y_T_blameNamed ∈ tb := tb_t 646 rfl (by decide +kernel)
set_option maxRecDepth 20000 in
theorem k_647 : Cond.code y_T_blameNamed b_T_blameNamed 2 (some .boolean) ∈ tb := tb_t 647 rfl (by decide +kernel)
set_option maxRecDepth 20000 in
theorem k_648 : Cond.methodLink "VotedTriple" 301 y_D_takeBlame ∈ tb := tb_t 648 rfl (by decide +kernel)
set_option maxRecDepth 20000 in
theorem k_649 : Cond.instanceMethod y_D_takeBlame ∈ tb := tb_t 649 rfl (by decide +kernel)
set_option maxRecDepth 20000 in
theorem k_650 : Cond.selects "VotedTriple$VotedModule" y_D_takeBlame y_D_takeBlame ∈ tb := tb_t 650 rfl (by decide +kernel)
set_option maxRecDepth 20000 in
theorem k_651 : Cond.code y_D_takeBlame b_D_takeBlame 1 none ∈ tb := tb_t 651 rfl (by decide +kernel)
set_option maxRecDepth 20000 in
theorem k_652 : Cond.methodLink "VotedTriple" 205 y_T_copyOn ∈ tb := tb_t 652 rfl (by decide +kernel)
set_option maxRecDepth 20000 in
theorem k_654 : Cond.instanceMethod y_T_copyOn ∈ tb := tb_t 654 rfl (by decide +kernel)
set_option maxRecDepth 20000 in
theorem k_655 : Cond.code y_T_copyOn b_T_copyOn 3 none ∈ tb := tb_t 655 rfl (by decide +kernel)
set_option maxRecDepth 20000 in
theorem k_656 : Cond.methodLink "VotedTriple" 304 y_D_copyNextFrom ∈ tb := tb_t 656 rfl (by decide +kernel)
set_option maxRecDepth 20000 in
theorem k_657 : Cond.instanceMethod y_D_copyNextFrom ∈ tb := tb_t 657 rfl (by decide +kernel)
set_option maxRecDepth 20000 in
theorem k_658 : Cond.selects "VotedTriple$VotedModule" y_D_copyNextFrom y_D_copyNextFrom ∈ tb := tb_t 658 rfl (by decide +kernel)
set_option maxRecDepth 20000 in
theorem k_659 : Cond.code y_D_copyNextFrom b_D_copyNextFrom 2 none ∈ tb := tb_t 659 rfl (by decide +kernel)
set_option maxRecDepth 20000 in
theorem k_660 : Cond.methodLink "VotedTriple$VotedModule" 91 ⟨"java/lang/System", "arraycopy", "(Ljava/lang/Object;ILjava/lang/Object;II)V"⟩ ∈ tb := tb_t 660 rfl (by decide +kernel)
set_option maxRecDepth 20000 in
theorem k_661 : Cond.static ⟨"java/lang/System", "arraycopy", "(Ljava/lang/Object;ILjava/lang/Object;II)V"⟩ ∈ tb := tb_t 661 rfl (by decide +kernel)
set_option maxRecDepth 20000 in
theorem k_662 : Cond.native ⟨"java/lang/System", "arraycopy", "(Ljava/lang/Object;ILjava/lang/Object;II)V"⟩ ∈ tb := tb_t 662 rfl (by decide +kernel)
set_option maxRecDepth 20000 in
theorem k_663 : Cond.methodLink "VotedTriple" 208 y_T_forgive ∈ tb := tb_t 663 rfl (by decide +kernel)
set_option maxRecDepth 20000 in
theorem k_665 : Cond.instanceMethod y_T_forgive ∈ tb := tb_t 665 rfl (by decide +kernel)
set_option maxRecDepth 20000 in
theorem k_666 : Cond.code y_T_forgive b_T_forgive 2 none ∈ tb := tb_t 666 rfl (by decide +kernel)
set_option maxRecDepth 20000 in
theorem k_669 : Cond.codeWith y_L_output b_L_output 4 (some .int) [(0, 9, 12, 20)] ∈ tb := tb_t 669 rfl (by decide +kernel)
set_option maxRecDepth 20000 in
theorem k_670 : Cond.classLink "VotedTripleLaw" 20 "java/lang/IndexOutOfBoundsException" ∈ tb := tb_t 670 rfl (by decide +kernel)
set_option maxRecDepth 20000 in
theorem k_671 : Cond.methodLink "VotedTripleLaw" 17 y_T_output ∈ tb := tb_t 671 rfl (by decide +kernel)
set_option maxRecDepth 20000 in
theorem k_672 : Cond.instanceMethod y_T_output ∈ tb := tb_t 672 rfl (by decide +kernel)
set_option maxRecDepth 20000 in
theorem k_673 : Cond.selects "VotedTriple" y_T_output y_T_output ∈ tb := tb_t 673 rfl (by decide +kernel)
set_option maxRecDepth 20000 in
theorem k_674 : Cond.code y_T_output b_T_output 2 (some .int) ∈ tb := tb_t 674 rfl (by decide +kernel)
set_option maxRecDepth 20000 in
theorem k_675 : Cond.methodLink "VotedTriple" 104 y_O_keeps ∈ tb := tb_t 675 rfl (by decide +kernel)
set_option maxRecDepth 20000 in
theorem k_676 : Cond.instanceMethod y_O_keeps ∈ tb := tb_t 676 rfl (by decide +kernel)
set_option maxRecDepth 20000 in
theorem k_677 : Cond.selects "VotedTriple$WordsOut" y_O_keeps y_O_keeps ∈ tb := tb_t 677 rfl (by decide +kernel)
set_option maxRecDepth 20000 in
theorem k_678 : Cond.code y_O_keeps b_O_keeps 2 (some .boolean) ∈ tb := tb_t 678 rfl (by decide +kernel)
set_option maxRecDepth 20000 in
theorem k_679 : Cond.classLink "VotedTriple" 107 "java/lang/IndexOutOfBoundsException" ∈ tb := tb_t 679 rfl (by decide +kernel)
set_option maxRecDepth 20000 in
theorem k_680 : Cond.instantiable "java/lang/IndexOutOfBoundsException" 6 ∈ tb := tb_t 680 rfl (by decide +kernel)
set_option maxRecDepth 20000 in
theorem k_682 : Cond.selects "java/lang/IndexOutOfBoundsException" ⟨"java/lang/Throwable", "fillInStackTrace", "(I)Ljava/lang/Throwable;"⟩ ⟨"java/lang/Throwable", "fillInStackTrace", "(I)Ljava/lang/Throwable;"⟩ ∈ tb := tb_t 682 rfl (by decide +kernel)
set_option maxRecDepth 20000 in
theorem k_683 : Cond.lays "java/lang/IndexOutOfBoundsException" "java/lang/Throwable" "cause" "Ljava/lang/Throwable;" ∈ tb := tb_t 683 rfl (by decide +kernel)
set_option maxRecDepth 20000 in
theorem k_684 : Cond.lays "java/lang/IndexOutOfBoundsException" "java/lang/Throwable" "stackTrace" "[Ljava/lang/StackTraceElement;" ∈ tb := tb_t 684 rfl (by decide +kernel)
set_option maxRecDepth 20000 in
theorem k_685 : Cond.lays "java/lang/IndexOutOfBoundsException" "java/lang/Throwable" "suppressedExceptions" "Ljava/util/List;" ∈ tb := tb_t 685 rfl (by decide +kernel)
set_option maxRecDepth 20000 in
theorem k_686 : Cond.lays "java/lang/IndexOutOfBoundsException" "java/lang/Throwable" "detailMessage" "Ljava/lang/String;" ∈ tb := tb_t 686 rfl (by decide +kernel)
set_option maxRecDepth 20000 in
theorem k_687 : Cond.lays "java/lang/IndexOutOfBoundsException" "java/lang/Throwable" "backtrace" "Ljava/lang/Object;" ∈ tb := tb_t 687 rfl (by decide +kernel)
set_option maxRecDepth 20000 in
theorem k_689 : Cond.methodLink "VotedTriple" 111 ⟨"java/lang/IndexOutOfBoundsException", "<init>", "(Ljava/lang/String;)V"⟩ ∈ tb := tb_t 689 rfl (by decide +kernel)
set_option maxRecDepth 20000 in
theorem k_690 : Cond.instanceMethod ⟨"java/lang/IndexOutOfBoundsException", "<init>", "(Ljava/lang/String;)V"⟩ ∈ tb := tb_t 690 rfl (by decide +kernel)
set_option maxRecDepth 20000 in
theorem k_691 : Cond.code (Bundle.initS "java/lang/IndexOutOfBoundsException") Bundle.six 2 none ∈ tb := tb_t 691 rfl (by decide +kernel)
set_option maxRecDepth 20000 in
theorem k_692 : Cond.methodLink "java/lang/IndexOutOfBoundsException" 7 ⟨"java/lang/RuntimeException", "<init>", "(Ljava/lang/String;)V"⟩ ∈ tb := tb_t 692 rfl (by decide +kernel)
set_option maxRecDepth 20000 in
theorem k_697 : Cond.codeWith y_L_perfect b_L_perfect 4 (some .int) [(0, 9, 12, 20)] ∈ tb := tb_t 697 rfl (by decide +kernel)
set_option maxRecDepth 20000 in
theorem k_698 : Cond.methodLink "VotedTripleLaw" 22 y_T_perfect ∈ tb := tb_t 698 rfl (by decide +kernel)
set_option maxRecDepth 20000 in
theorem k_699 : Cond.instanceMethod y_T_perfect ∈ tb := tb_t 699 rfl (by decide +kernel)
set_option maxRecDepth 20000 in
theorem k_700 : Cond.selects "VotedTriple" y_T_perfect y_T_perfect ∈ tb := tb_t 700 rfl (by decide +kernel)
set_option maxRecDepth 20000 in
theorem k_701 : Cond.code y_T_perfect b_T_perfect 2 (some .int) ∈ tb := tb_t 701 rfl (by decide +kernel)
set_option maxRecDepth 20000 in
theorem k_703 : Cond.methodLink "VotedTripleLaw" 60 y_L_flip ∈ tb := tb_t 703 rfl (by decide +kernel)
set_option maxRecDepth 20000 in
theorem k_704 : Cond.static y_L_flip ∈ tb := tb_t 704 rfl (by decide +kernel)
set_option maxRecDepth 20000 in
theorem k_705 : Cond.codeWith y_L_flip b_L_flip 6 (some .int) [(0, 9, 12, 20)] ∈ tb := tb_t 705 rfl (by decide +kernel)
set_option maxRecDepth 20000 in
theorem k_706 : Cond.methodLink "VotedTripleLaw" 25 y_T_flip ∈ tb := tb_t 706 rfl (by decide +kernel)
set_option maxRecDepth 20000 in
theorem k_707 : Cond.instanceMethod y_T_flip ∈ tb := tb_t 707 rfl (by decide +kernel)
set_option maxRecDepth 20000 in
theorem k_708 : Cond.selects "VotedTriple" y_T_flip y_T_flip ∈ tb := tb_t 708 rfl (by decide +kernel)
set_option maxRecDepth 20000 in
theorem k_709 : Cond.code y_T_flip b_T_flip 6 none ∈ tb := tb_t 709 rfl (by decide +kernel)
set_option maxRecDepth 20000 in
theorem k_710 : Cond.methodLink "VotedTriple" 122 y_T_hasBit ∈ tb := tb_t 710 rfl (by decide +kernel)
set_option maxRecDepth 20000 in
theorem k_711 : Cond.static y_T_hasBit ∈ tb := tb_t 711 rfl (by decide +kernel)
set_option maxRecDepth 20000 in
theorem k_712 : Cond.code y_T_hasBit b_T_hasBit 3 (some .boolean) ∈ tb := tb_t 712 rfl (by decide +kernel)
set_option maxRecDepth 20000 in
theorem k_713 : Cond.methodLink "VotedTriple" 176 y_T_isBelow ∈ tb := tb_t 713 rfl (by decide +kernel)
set_option maxRecDepth 20000 in
theorem k_714 : Cond.static y_T_isBelow ∈ tb := tb_t 714 rfl (by decide +kernel)
set_option maxRecDepth 20000 in
theorem k_715 : Cond.code y_T_isBelow b_T_isBelow 2 (some .boolean) ∈ tb := tb_t 715 rfl (by decide +kernel)
set_option maxRecDepth 20000 in
theorem k_717 : Cond.methodLink "VotedTriple" 137 y_P_wrap ∈ tb := tb_t 717 rfl (by decide +kernel)
set_option maxRecDepth 20000 in
theorem k_718 : Cond.classLink "VotedTripleLaw" 30 "VotedTripleModel" ∈ tb := tb_t 718 rfl (by decide +kernel)
set_option maxRecDepth 20000 in
theorem k_719 : Cond.instantiable "VotedTripleModel" 37 ∈ tb := tb_t 719 rfl (by decide +kernel)
set_option maxRecDepth 20000 in
theorem k_720 : Cond.methodLink "VotedTripleLaw" 32 y_M_init ∈ tb := tb_t 720 rfl (by decide +kernel)
set_option maxRecDepth 20000 in
theorem k_721 : Cond.instanceMethod y_M_init ∈ tb := tb_t 721 rfl (by decide +kernel)
set_option maxRecDepth 20000 in
theorem k_722 : Cond.code y_M_init b_M_init 1 none ∈ tb := tb_t 722 rfl (by decide +kernel)
set_option maxRecDepth 20000 in
theorem k_723 : Cond.methodLink "VotedTripleModel" 1 Lib.objectInit ∈ tb := tb_t 723 rfl (by decide +kernel)
set_option maxRecDepth 20000 in
theorem k_724 : Cond.fieldLink "VotedTripleModel" 77 "VotedTripleModel" "thrown" "I" ∈ tb := tb_t 724 rfl (by decide +kernel)
set_option maxRecDepth 20000 in
theorem k_725 : Cond.fieldLink "VotedTripleModel" 93 "VotedTripleModel" "size" "I" ∈ tb := tb_t 725 rfl (by decide +kernel)
set_option maxRecDepth 20000 in
theorem k_726 : Cond.fieldLink "VotedTripleModel" 7 "VotedTripleModel" "code" "[I" ∈ tb := tb_t 726 rfl (by decide +kernel)
set_option maxRecDepth 20000 in
theorem k_727 : Cond.fieldLink "VotedTripleModel" 89 "VotedTripleModel" "started" "Z" ∈ tb := tb_t 727 rfl (by decide +kernel)
set_option maxRecDepth 20000 in
theorem k_728 : Cond.fieldLink "VotedTripleModel" 122 "VotedTripleModel" "safe" "Z" ∈ tb := tb_t 728 rfl (by decide +kernel)
set_option maxRecDepth 20000 in
theorem k_729 : Cond.fieldLink "VotedTripleModel" 125 "VotedTripleModel" "single" "Z" ∈ tb := tb_t 729 rfl (by decide +kernel)
set_option maxRecDepth 20000 in
theorem k_730 : Cond.fieldLink "VotedTripleModel" 128 "VotedTripleModel" "steps" "I" ∈ tb := tb_t 730 rfl (by decide +kernel)
set_option maxRecDepth 20000 in
theorem k_731 : Cond.fieldLink "VotedTripleModel" 131 "VotedTripleModel" "unlike" "I" ∈ tb := tb_t 731 rfl (by decide +kernel)
set_option maxRecDepth 20000 in
theorem k_732 : Cond.fieldLink "VotedTripleModel" 13 "VotedTripleModel" "register" "[I" ∈ tb := tb_t 732 rfl (by decide +kernel)
set_option maxRecDepth 20000 in
theorem k_733 : Cond.fieldLink "VotedTripleModel" 16 "VotedTripleModel" "cell" "[I" ∈ tb := tb_t 733 rfl (by decide +kernel)
set_option maxRecDepth 20000 in
theorem k_734 : Cond.fieldLink "VotedTripleModel" 19 "VotedTripleModel" "counter" "[I" ∈ tb := tb_t 734 rfl (by decide +kernel)
set_option maxRecDepth 20000 in
theorem k_735 : Cond.fieldLink "VotedTripleModel" 22 "VotedTripleModel" "state" "[I" ∈ tb := tb_t 735 rfl (by decide +kernel)
set_option maxRecDepth 20000 in
theorem k_736 : Cond.fieldLink "VotedTripleModel" 25 "VotedTripleModel" "mark" "[I" ∈ tb := tb_t 736 rfl (by decide +kernel)
set_option maxRecDepth 20000 in
theorem k_737 : Cond.fieldLink "VotedTripleModel" 28 "VotedTripleModel" "blame" "[I" ∈ tb := tb_t 737 rfl (by decide +kernel)
set_option maxRecDepth 20000 in
theorem k_738 : Cond.fieldLink "VotedTripleModel" 31 "VotedTripleModel" "frozen" "[Z" ∈ tb := tb_t 738 rfl (by decide +kernel)
set_option maxRecDepth 20000 in
theorem k_739 : Cond.fieldLink "VotedTripleModel" 35 "VotedTripleModel" "skips" "[Z" ∈ tb := tb_t 739 rfl (by decide +kernel)
set_option maxRecDepth 20000 in
theorem k_740 : Cond.fieldLink "VotedTripleModel" 38 "VotedTripleModel" "mended" "[I" ∈ tb := tb_t 740 rfl (by decide +kernel)
set_option maxRecDepth 20000 in
theorem k_741 : Cond.fieldLink "VotedTripleModel" 41 "VotedTripleModel" "namedTimes" "[I" ∈ tb := tb_t 741 rfl (by decide +kernel)
set_option maxRecDepth 20000 in
theorem k_742 : Cond.fieldLink "VotedTripleModel" 44 "VotedTripleModel" "wish" "[I" ∈ tb := tb_t 742 rfl (by decide +kernel)
set_option maxRecDepth 20000 in
theorem k_743 : Cond.fieldLink "VotedTripleModel" 47 "VotedTripleModel" "spoilt" "[Z" ∈ tb := tb_t 743 rfl (by decide +kernel)
set_option maxRecDepth 20000 in
theorem k_744 : Cond.fieldLink "VotedTripleModel" 50 "VotedTripleModel" "inTo" "[I" ∈ tb := tb_t 744 rfl (by decide +kernel)
set_option maxRecDepth 20000 in
theorem k_745 : Cond.fieldLink "VotedTripleModel" 53 "VotedTripleModel" "storeAt" "[I" ∈ tb := tb_t 745 rfl (by decide +kernel)
set_option maxRecDepth 20000 in
theorem k_746 : Cond.fieldLink "VotedTripleModel" 56 "VotedTripleModel" "storeWord" "[I" ∈ tb := tb_t 746 rfl (by decide +kernel)
set_option maxRecDepth 20000 in
theorem k_747 : Cond.fieldLink "VotedTripleModel" 59 "VotedTripleModel" "named" "[Z" ∈ tb := tb_t 747 rfl (by decide +kernel)
set_option maxRecDepth 20000 in
theorem k_748 : Cond.fieldLink "VotedTripleModel" 109 "VotedTripleModel" "readSpoilt" "Z" ∈ tb := tb_t 748 rfl (by decide +kernel)
set_option maxRecDepth 20000 in
theorem k_749 : Cond.fieldLink "VotedTripleModel" 134 "VotedTripleModel" "came" "I" ∈ tb := tb_t 749 rfl (by decide +kernel)
set_option maxRecDepth 20000 in
theorem k_750 : Cond.fieldLink "VotedTripleModel" 137 "VotedTripleModel" "used" "I" ∈ tb := tb_t 750 rfl (by decide +kernel)
set_option maxRecDepth 20000 in
theorem k_751 : Cond.fieldLink "VotedTripleModel" 62 "VotedTripleModel" "inputs" "[I" ∈ tb := tb_t 751 rfl (by decide +kernel)
set_option maxRecDepth 20000 in
theorem k_752 : Cond.fieldLink "VotedTripleModel" 140 "VotedTripleModel" "went" "I" ∈ tb := tb_t 752 rfl (by decide +kernel)
set_option maxRecDepth 20000 in
theorem k_753 : Cond.fieldLink "VotedTripleModel" 65 "VotedTripleModel" "outputs" "[I" ∈ tb := tb_t 753 rfl (by decide +kernel)
set_option maxRecDepth 20000 in
theorem k_754 : Cond.fieldLink "VotedTripleModel" 68 "VotedTripleModel" "ownRegister" "[I" ∈ tb := tb_t 754 rfl (by decide +kernel)
set_option maxRecDepth 20000 in
theorem k_755 : Cond.fieldLink "VotedTripleModel" 71 "VotedTripleModel" "ownWord" "[I" ∈ tb := tb_t 755 rfl (by decide +kernel)
set_option maxRecDepth 20000 in
theorem k_756 : Cond.fieldLink "VotedTripleModel" 143 "VotedTripleModel" "ownCounter" "I" ∈ tb := tb_t 756 rfl (by decide +kernel)
set_option maxRecDepth 20000 in
theorem k_757 : Cond.fieldLink "VotedTripleModel" 146 "VotedTripleModel" "ownUsed" "I" ∈ tb := tb_t 757 rfl (by decide +kernel)
set_option maxRecDepth 20000 in
theorem k_758 : Cond.fieldLink "VotedTripleModel" 149 "VotedTripleModel" "ownWent" "I" ∈ tb := tb_t 758 rfl (by decide +kernel)
set_option maxRecDepth 20000 in
theorem k_759 : Cond.fieldLink "VotedTripleModel" 74 "VotedTripleModel" "ownOutputs" "[I" ∈ tb := tb_t 759 rfl (by decide +kernel)
set_option maxRecDepth 20000 in
theorem k_760 : Cond.lays "VotedTripleModel" "VotedTripleModel" "thrown" "I" ∈ tb := tb_t 760 rfl (by decide +kernel)
set_option maxRecDepth 20000 in
theorem k_762 : Cond.lays "VotedTripleModel" "VotedTripleModel" "size" "I" ∈ tb := tb_t 762 rfl (by decide +kernel)
set_option maxRecDepth 20000 in
theorem k_764 : Cond.laysFinal "VotedTripleModel" "VotedTripleModel" "code" "[I" ∈ tb := tb_t 764 rfl (by decide +kernel)
set_option maxRecDepth 20000 in
theorem k_766 : Cond.lays "VotedTripleModel" "VotedTripleModel" "started" "Z" ∈ tb := tb_t 766 rfl (by decide +kernel)
set_option maxRecDepth 20000 in
theorem k_768 : Cond.lays "VotedTripleModel" "VotedTripleModel" "safe" "Z" ∈ tb := tb_t 768 rfl (by decide +kernel)
set_option maxRecDepth 20000 in
theorem k_770 : Cond.lays "VotedTripleModel" "VotedTripleModel" "single" "Z" ∈ tb := tb_t 770 rfl (by decide +kernel)
set_option maxRecDepth 20000 in
theorem k_772 : Cond.lays "VotedTripleModel" "VotedTripleModel" "steps" "I" ∈ tb := tb_t 772 rfl (by decide +kernel)
set_option maxRecDepth 20000 in
theorem k_774 : Cond.lays "VotedTripleModel" "VotedTripleModel" "unlike" "I" ∈ tb := tb_t 774 rfl (by decide +kernel)
set_option maxRecDepth 20000 in
theorem k_776 : Cond.laysFinal "VotedTripleModel" "VotedTripleModel" "register" "[I" ∈ tb := tb_t 776 rfl (by decide +kernel)
set_option maxRecDepth 20000 in
theorem k_778 : Cond.laysFinal "VotedTripleModel" "VotedTripleModel" "cell" "[I" ∈ tb := tb_t 778 rfl (by decide +kernel)
set_option maxRecDepth 20000 in
theorem k_780 : Cond.laysFinal "VotedTripleModel" "VotedTripleModel" "counter" "[I" ∈ tb := tb_t 780 rfl (by decide +kernel)
set_option maxRecDepth 20000 in
theorem k_782 : Cond.laysFinal "VotedTripleModel" "VotedTripleModel" "state" "[I" ∈ tb := tb_t 782 rfl (by decide +kernel)
set_option maxRecDepth 20000 in
theorem k_784 : Cond.laysFinal "VotedTripleModel" "VotedTripleModel" "mark" "[I" ∈ tb := tb_t 784 rfl (by decide +kernel)
set_option maxRecDepth 20000 in
theorem k_786 : Cond.laysFinal "VotedTripleModel" "VotedTripleModel" "blame" "[I" ∈ tb := tb_t 786 rfl (by decide +kernel)
set_option maxRecDepth 20000 in
theorem k_788 : Cond.laysFinal "VotedTripleModel" "VotedTripleModel" "frozen" "[Z" ∈ tb := tb_t 788 rfl (by decide +kernel)
set_option maxRecDepth 20000 in
theorem k_790 : Cond.laysFinal "VotedTripleModel" "VotedTripleModel" "skips" "[Z" ∈ tb := tb_t 790 rfl (by decide +kernel)
set_option maxRecDepth 20000 in
theorem k_792 : Cond.laysFinal "VotedTripleModel" "VotedTripleModel" "mended" "[I" ∈ tb := tb_t 792 rfl (by decide +kernel)
set_option maxRecDepth 20000 in
theorem k_794 : Cond.laysFinal "VotedTripleModel" "VotedTripleModel" "namedTimes" "[I" ∈ tb := tb_t 794 rfl (by decide +kernel)
set_option maxRecDepth 20000 in
theorem k_796 : Cond.laysFinal "VotedTripleModel" "VotedTripleModel" "wish" "[I" ∈ tb := tb_t 796 rfl (by decide +kernel)
set_option maxRecDepth 20000 in
theorem k_798 : Cond.laysFinal "VotedTripleModel" "VotedTripleModel" "spoilt" "[Z" ∈ tb := tb_t 798 rfl (by decide +kernel)
set_option maxRecDepth 20000 in
theorem k_800 : Cond.laysFinal "VotedTripleModel" "VotedTripleModel" "inTo" "[I" ∈ tb := tb_t 800 rfl (by decide +kernel)
set_option maxRecDepth 20000 in
theorem k_802 : Cond.laysFinal "VotedTripleModel" "VotedTripleModel" "storeAt" "[I" ∈ tb := tb_t 802 rfl (by decide +kernel)
set_option maxRecDepth 20000 in
theorem k_804 : Cond.laysFinal "VotedTripleModel" "VotedTripleModel" "storeWord" "[I" ∈ tb := tb_t 804 rfl (by decide +kernel)
set_option maxRecDepth 20000 in
theorem k_806 : Cond.laysFinal "VotedTripleModel" "VotedTripleModel" "named" "[Z" ∈ tb := tb_t 806 rfl (by decide +kernel)
set_option maxRecDepth 20000 in
theorem k_808 : Cond.lays "VotedTripleModel" "VotedTripleModel" "readSpoilt" "Z" ∈ tb := tb_t 808 rfl (by decide +kernel)
set_option maxRecDepth 20000 in
theorem k_810 : Cond.lays "VotedTripleModel" "VotedTripleModel" "jump" "I" ∈ tb := tb_t 810 rfl (by decide +kernel)
set_option maxRecDepth 20000 in
theorem k_812 : Cond.lays "VotedTripleModel" "VotedTripleModel" "came" "I" ∈ tb := tb_t 812 rfl (by decide +kernel)
set_option maxRecDepth 20000 in
theorem k_814 : Cond.lays "VotedTripleModel" "VotedTripleModel" "used" "I" ∈ tb := tb_t 814 rfl (by decide +kernel)
set_option maxRecDepth 20000 in
theorem k_816 : Cond.laysFinal "VotedTripleModel" "VotedTripleModel" "inputs" "[I" ∈ tb := tb_t 816 rfl (by decide +kernel)
set_option maxRecDepth 20000 in
theorem k_818 : Cond.lays "VotedTripleModel" "VotedTripleModel" "went" "I" ∈ tb := tb_t 818 rfl (by decide +kernel)
set_option maxRecDepth 20000 in
theorem k_820 : Cond.laysFinal "VotedTripleModel" "VotedTripleModel" "outputs" "[I" ∈ tb := tb_t 820 rfl (by decide +kernel)
set_option maxRecDepth 20000 in
theorem k_822 : Cond.laysFinal "VotedTripleModel" "VotedTripleModel" "ownRegister" "[I" ∈ tb := tb_t 822 rfl (by decide +kernel)
set_option maxRecDepth 20000 in
theorem k_824 : Cond.laysFinal "VotedTripleModel" "VotedTripleModel" "ownWord" "[I" ∈ tb := tb_t 824 rfl (by decide +kernel)
set_option maxRecDepth 20000 in
theorem k_826 : Cond.lays "VotedTripleModel" "VotedTripleModel" "ownCounter" "I" ∈ tb := tb_t 826 rfl (by decide +kernel)
set_option maxRecDepth 20000 in
theorem k_828 : Cond.lays "VotedTripleModel" "VotedTripleModel" "ownUsed" "I" ∈ tb := tb_t 828 rfl (by decide +kernel)
set_option maxRecDepth 20000 in
theorem k_830 : Cond.lays "VotedTripleModel" "VotedTripleModel" "ownWent" "I" ∈ tb := tb_t 830 rfl (by decide +kernel)
set_option maxRecDepth 20000 in
theorem k_832 : Cond.laysFinal "VotedTripleModel" "VotedTripleModel" "ownOutputs" "[I" ∈ tb := tb_t 832 rfl (by decide +kernel)
set_option maxRecDepth 20000 in
theorem k_835 : Cond.arrayClass .boolean ∈ tb := tb_t 835 rfl (by decide +kernel)
set_option maxRecDepth 20000 in
theorem k_836 : Cond.methodLink "VotedTripleLaw" 37 y_M_program ∈ tb := tb_t 836 rfl (by decide +kernel)
set_option maxRecDepth 20000 in
theorem k_837 : Cond.instanceMethod y_M_program ∈ tb := tb_t 837 rfl (by decide +kernel)
set_option maxRecDepth 20000 in
theorem k_838 : Cond.selects "VotedTripleModel" y_M_program y_M_program ∈ tb := tb_t 838 rfl (by decide +kernel)
set_option maxRecDepth 20000 in
theorem k_839 : Cond.code y_M_program b_M_program 3 (some .boolean) ∈ tb := tb_t 839 rfl (by decide +kernel)
set_option maxRecDepth 20000 in
theorem k_840 : Cond.methodLink "VotedTripleModel" 96 y_M_isRight ∈ tb := tb_t 840 rfl (by decide +kernel)
set_option maxRecDepth 20000 in
theorem k_841 : Cond.static y_M_isRight ∈ tb := tb_t 841 rfl (by decide +kernel)
set_option maxRecDepth 20000 in
theorem k_842 : Cond.code y_M_isRight b_M_isRight 4 (some .boolean) ∈ tb := tb_t 842 rfl (by decide +kernel)
set_option maxRecDepth 20000 in
theorem k_843 : Cond.methodLink "VotedTripleModel" 81 y_M_part ∈ tb := tb_t 843 rfl (by decide +kernel)
set_option maxRecDepth 20000 in
theorem k_844 : Cond.static y_M_part ∈ tb := tb_t 844 rfl (by decide +kernel)
set_option maxRecDepth 20000 in
theorem k_845 : Cond.code y_M_part b_M_part 2 (some .int) ∈ tb := tb_t 845 rfl (by decide +kernel)
set_option maxRecDepth 20000 in
theorem k_846 : Cond.methodLink "VotedTripleModel" 85 y_M_op ∈ tb := tb_t 846 rfl (by decide +kernel)
set_option maxRecDepth 20000 in
theorem k_847 : Cond.static y_M_op ∈ tb := tb_t 847 rfl (by decide +kernel)
set_option maxRecDepth 20000 in
theorem k_848 : Cond.code y_M_op b_M_op 1 (some .int) ∈ tb := tb_t 848 rfl (by decide +kernel)
set_option maxRecDepth 20000 in
theorem k_849 : Cond.methodLink "VotedTripleLaw" 42 y_M_start ∈ tb := tb_t 849 rfl (by decide +kernel)
set_option maxRecDepth 20000 in
theorem k_850 : Cond.instanceMethod y_M_start ∈ tb := tb_t 850 rfl (by decide +kernel)
set_option maxRecDepth 20000 in
theorem k_851 : Cond.selects "VotedTripleModel" y_M_start y_M_start ∈ tb := tb_t 851 rfl (by decide +kernel)
set_option maxRecDepth 20000 in
theorem k_852 : Cond.code y_M_start b_M_start 2 (some .boolean) ∈ tb := tb_t 852 rfl (by decide +kernel)
set_option maxRecDepth 20000 in
theorem k_853 : Cond.methodLink "VotedTripleModel" 118 y_M_canStart ∈ tb := tb_t 853 rfl (by decide +kernel)
set_option maxRecDepth 20000 in
theorem k_855 : Cond.instanceMethod y_M_canStart ∈ tb := tb_t 855 rfl (by decide +kernel)
set_option maxRecDepth 20000 in
theorem k_856 : Cond.code y_M_canStart b_M_canStart 3 (some .boolean) ∈ tb := tb_t 856 rfl (by decide +kernel)
set_option maxRecDepth 20000 in
theorem k_857 : Cond.methodLink "VotedTripleModel" 152 y_M_blank ∈ tb := tb_t 857 rfl (by decide +kernel)
set_option maxRecDepth 20000 in
theorem k_859 : Cond.instanceMethod y_M_blank ∈ tb := tb_t 859 rfl (by decide +kernel)
set_option maxRecDepth 20000 in
theorem k_860 : Cond.code y_M_blank b_M_blank 3 none ∈ tb := tb_t 860 rfl (by decide +kernel)
set_option maxRecDepth 20000 in
theorem k_861 : Cond.methodLink "VotedTripleModel" 115 y_M_encode ∈ tb := tb_t 861 rfl (by decide +kernel)
set_option maxRecDepth 20000 in
theorem k_862 : Cond.static y_M_encode ∈ tb := tb_t 862 rfl (by decide +kernel)
set_option maxRecDepth 20000 in
theorem k_863 : Cond.code y_M_encode b_M_encode 5 (some .int) ∈ tb := tb_t 863 rfl (by decide +kernel)
set_option maxRecDepth 20000 in
theorem k_864 : Cond.methodLink "VotedTripleModel" 100 y_M_isData ∈ tb := tb_t 864 rfl (by decide +kernel)
set_option maxRecDepth 20000 in
theorem k_865 : Cond.static y_M_isData ∈ tb := tb_t 865 rfl (by decide +kernel)
set_option maxRecDepth 20000 in
theorem k_866 : Cond.code y_M_isData b_M_isData 1 (some .boolean) ∈ tb := tb_t 866 rfl (by decide +kernel)
set_option maxRecDepth 20000 in
theorem k_867 : Cond.methodLink "VotedTripleModel" 103 y_M_positions ∈ tb := tb_t 867 rfl (by decide +kernel)
set_option maxRecDepth 20000 in
theorem k_868 : Cond.static y_M_positions ∈ tb := tb_t 868 rfl (by decide +kernel)
set_option maxRecDepth 20000 in
theorem k_869 : Cond.code y_M_positions b_M_positions 3 (some .int) ∈ tb := tb_t 869 rfl (by decide +kernel)
set_option maxRecDepth 20000 in
theorem k_870 : Cond.methodLink "VotedTripleModel" 106 y_M_ones ∈ tb := tb_t 870 rfl (by decide +kernel)
set_option maxRecDepth 20000 in
theorem k_871 : Cond.static y_M_ones ∈ tb := tb_t 871 rfl (by decide +kernel)
set_option maxRecDepth 20000 in
theorem k_872 : Cond.code y_M_ones b_M_ones 3 (some .int) ∈ tb := tb_t 872 rfl (by decide +kernel)
set_option maxRecDepth 20000 in
theorem k_873 : Cond.methodLink "VotedTripleLaw" 48 y_M_step ∈ tb := tb_t 873 rfl (by decide +kernel)
set_option maxRecDepth 20000 in
theorem k_874 : Cond.instanceMethod y_M_step ∈ tb := tb_t 874 rfl (by decide +kernel)
set_option maxRecDepth 20000 in
theorem k_875 : Cond.selects "VotedTripleModel" y_M_step y_M_step ∈ tb := tb_t 875 rfl (by decide +kernel)
set_option maxRecDepth 20000 in
theorem k_876 : Cond.code y_M_step b_M_step 3 (some .int) ∈ tb := tb_t 876 rfl (by decide +kernel)
set_option maxRecDepth 20000 in
theorem k_877 : Cond.methodLink "VotedTripleModel" 206 y_M_stepOnce ∈ tb := tb_t 877 rfl (by decide +kernel)
set_option maxRecDepth 20000 in
theorem k_879 : Cond.instanceMethod y_M_stepOnce ∈ tb := tb_t 879 rfl (by decide +kernel)
set_option maxRecDepth 20000 in
theorem k_880 : Cond.code y_M_stepOnce b_M_stepOnce 3 (some .boolean) ∈ tb := tb_t 880 rfl (by decide +kernel)
set_option maxRecDepth 20000 in
theorem k_881 : Cond.methodLink "VotedTripleModel" 179 y_M_perfectStep ∈ tb := tb_t 881 rfl (by decide +kernel)
set_option maxRecDepth 20000 in
theorem k_883 : Cond.instanceMethod y_M_perfectStep ∈ tb := tb_t 883 rfl (by decide +kernel)
set_option maxRecDepth 20000 in
theorem k_884 : Cond.code y_M_perfectStep b_M_perfectStep 5 none ∈ tb := tb_t 884 rfl (by decide +kernel)
set_option maxRecDepth 20000 in
theorem k_885 : Cond.methodLink "VotedTripleModel" 157 y_M_result ∈ tb := tb_t 885 rfl (by decide +kernel)
set_option maxRecDepth 20000 in
theorem k_886 : Cond.static y_M_result ∈ tb := tb_t 886 rfl (by decide +kernel)
set_option maxRecDepth 20000 in
theorem k_887 : Cond.code y_M_result b_M_result 3 (some .int) ∈ tb := tb_t 887 rfl (by decide +kernel)
set_option maxRecDepth 20000 in
theorem k_888 : Cond.constant "VotedTripleModel" 156 65535 ∈ tb := tb_t 888 rfl (by decide +kernel)
set_option maxRecDepth 20000 in
theorem k_889 : Cond.methodLink "VotedTripleModel" 182 y_M_instruction ∈ tb := tb_t 889 rfl (by decide +kernel)
set_option maxRecDepth 20000 in
theorem k_891 : Cond.instanceMethod y_M_instruction ∈ tb := tb_t 891 rfl (by decide +kernel)
set_option maxRecDepth 20000 in
theorem k_892 : Cond.code y_M_instruction b_M_instruction 7 none ∈ tb := tb_t 892 rfl (by decide +kernel)
set_option maxRecDepth 20000 in
theorem k_893 : Cond.methodLink "VotedTripleModel" 161 y_M_read ∈ tb := tb_t 893 rfl (by decide +kernel)
set_option maxRecDepth 20000 in
theorem k_895 : Cond.instanceMethod y_M_read ∈ tb := tb_t 895 rfl (by decide +kernel)
set_option maxRecDepth 20000 in
theorem k_896 : Cond.code y_M_read b_M_read 5 (some .int) ∈ tb := tb_t 896 rfl (by decide +kernel)
set_option maxRecDepth 20000 in
theorem k_897 : Cond.methodLink "VotedTripleModel" 112 y_M_decode ∈ tb := tb_t 897 rfl (by decide +kernel)
set_option maxRecDepth 20000 in
theorem k_898 : Cond.static y_M_decode ∈ tb := tb_t 898 rfl (by decide +kernel)
set_option maxRecDepth 20000 in
theorem k_899 : Cond.code y_M_decode b_M_decode 4 (some .int) ∈ tb := tb_t 899 rfl (by decide +kernel)
set_option maxRecDepth 20000 in
theorem k_900 : Cond.methodLink "VotedTripleModel" 185 y_M_vote ∈ tb := tb_t 900 rfl (by decide +kernel)
set_option maxRecDepth 20000 in
theorem k_902 : Cond.instanceMethod y_M_vote ∈ tb := tb_t 902 rfl (by decide +kernel)
set_option maxRecDepth 20000 in
theorem k_903 : Cond.code y_M_vote b_M_vote 6 (some .int) ∈ tb := tb_t 903 rfl (by decide +kernel)
set_option maxRecDepth 20000 in
theorem k_904 : Cond.methodLink "VotedTripleModel" 164 y_M_isLike ∈ tb := tb_t 904 rfl (by decide +kernel)
set_option maxRecDepth 20000 in
theorem k_906 : Cond.instanceMethod y_M_isLike ∈ tb := tb_t 906 rfl (by decide +kernel)
set_option maxRecDepth 20000 in
theorem k_907 : Cond.code y_M_isLike b_M_isLike 3 (some .boolean) ∈ tb := tb_t 907 rfl (by decide +kernel)
set_option maxRecDepth 20000 in
theorem k_908 : Cond.methodLink "VotedTripleModel" 188 y_M_agreed ∈ tb := tb_t 908 rfl (by decide +kernel)
set_option maxRecDepth 20000 in
theorem k_910 : Cond.instanceMethod y_M_agreed ∈ tb := tb_t 910 rfl (by decide +kernel)
set_option maxRecDepth 20000 in
theorem k_911 : Cond.code y_M_agreed b_M_agreed 5 none ∈ tb := tb_t 911 rfl (by decide +kernel)
set_option maxRecDepth 20000 in
theorem k_912 : Cond.methodLink "VotedTripleModel" 191 y_M_copyStore ∈ tb := tb_t 912 rfl (by decide +kernel)
set_option maxRecDepth 20000 in
theorem k_914 : Cond.instanceMethod y_M_copyStore ∈ tb := tb_t 914 rfl (by decide +kernel)
set_option maxRecDepth 20000 in
theorem k_915 : Cond.code y_M_copyStore b_M_copyStore 3 none ∈ tb := tb_t 915 rfl (by decide +kernel)
set_option maxRecDepth 20000 in
theorem k_916 : Cond.methodLink "VotedTripleModel" 168 y_M_lowest ∈ tb := tb_t 916 rfl (by decide +kernel)
set_option maxRecDepth 20000 in
theorem k_918 : Cond.instanceMethod y_M_lowest ∈ tb := tb_t 918 rfl (by decide +kernel)
set_option maxRecDepth 20000 in
theorem k_919 : Cond.code y_M_lowest b_M_lowest 3 (some .int) ∈ tb := tb_t 919 rfl (by decide +kernel)
set_option maxRecDepth 20000 in
theorem k_920 : Cond.methodLink "VotedTripleModel" 194 y_M_scrub ∈ tb := tb_t 920 rfl (by decide +kernel)
set_option maxRecDepth 20000 in
theorem k_922 : Cond.instanceMethod y_M_scrub ∈ tb := tb_t 922 rfl (by decide +kernel)
set_option maxRecDepth 20000 in
theorem k_923 : Cond.code y_M_scrub b_M_scrub 4 (some .boolean) ∈ tb := tb_t 923 rfl (by decide +kernel)
set_option maxRecDepth 20000 in
theorem k_924 : Cond.methodLink "VotedTripleModel" 197 y_M_compareDigests ∈ tb := tb_t 924 rfl (by decide +kernel)
set_option maxRecDepth 20000 in
theorem k_926 : Cond.instanceMethod y_M_compareDigests ∈ tb := tb_t 926 rfl (by decide +kernel)
set_option maxRecDepth 20000 in
theorem k_927 : Cond.code y_M_compareDigests b_M_compareDigests 7 (some .boolean) ∈ tb := tb_t 927 rfl (by decide +kernel)
set_option maxRecDepth 20000 in
theorem k_928 : Cond.methodLink "VotedTripleModel" 172 y_M_digest ∈ tb := tb_t 928 rfl (by decide +kernel)
set_option maxRecDepth 20000 in
theorem k_930 : Cond.instanceMethod y_M_digest ∈ tb := tb_t 930 rfl (by decide +kernel)
set_option maxRecDepth 20000 in
theorem k_931 : Cond.code y_M_digest b_M_digest 5 (some .int) ∈ tb := tb_t 931 rfl (by decide +kernel)
set_option maxRecDepth 20000 in
theorem k_932 : Cond.methodLink "VotedTripleModel" 200 y_M_blameAll ∈ tb := tb_t 932 rfl (by decide +kernel)
set_option maxRecDepth 20000 in
theorem k_934 : Cond.instanceMethod y_M_blameAll ∈ tb := tb_t 934 rfl (by decide +kernel)
set_option maxRecDepth 20000 in
theorem k_935 : Cond.code y_M_blameAll b_M_blameAll 2 (some .boolean) ∈ tb := tb_t 935 rfl (by decide +kernel)
set_option maxRecDepth 20000 in
theorem k_936 : Cond.methodLink "VotedTripleModel" 175 y_M_inStep ∈ tb := tb_t 936 rfl (by decide +kernel)
set_option maxRecDepth 20000 in
theorem k_938 : Cond.instanceMethod y_M_inStep ∈ tb := tb_t 938 rfl (by decide +kernel)
set_option maxRecDepth 20000 in
theorem k_939 : Cond.code y_M_inStep b_M_inStep 3 (some .int) ∈ tb := tb_t 939 rfl (by decide +kernel)
set_option maxRecDepth 20000 in
theorem k_940 : Cond.methodLink "VotedTripleModel" 203 y_M_copyAll ∈ tb := tb_t 940 rfl (by decide +kernel)
set_option maxRecDepth 20000 in
theorem k_942 : Cond.instanceMethod y_M_copyAll ∈ tb := tb_t 942 rfl (by decide +kernel)
set_option maxRecDepth 20000 in
theorem k_943 : Cond.code y_M_copyAll b_M_copyAll 4 none ∈ tb := tb_t 943 rfl (by decide +kernel)
set_option maxRecDepth 20000 in
theorem k_947 : Cond.code y_M_input b_M_input 2 (some .boolean) ∈ tb := tb_t 947 rfl (by decide +kernel)
set_option maxRecDepth 20000 in
theorem k_951 : Cond.code y_M_output b_M_output 3 (some .int) ∈ tb := tb_t 951 rfl (by decide +kernel)
set_option maxRecDepth 20000 in
theorem k_955 : Cond.code y_M_perfect b_M_perfect 3 (some .int) ∈ tb := tb_t 955 rfl (by decide +kernel)
set_option maxRecDepth 20000 in
theorem k_956 : Cond.methodLink "VotedTripleLaw" 63 y_M_flip ∈ tb := tb_t 956 rfl (by decide +kernel)
set_option maxRecDepth 20000 in
theorem k_957 : Cond.instanceMethod y_M_flip ∈ tb := tb_t 957 rfl (by decide +kernel)
set_option maxRecDepth 20000 in
theorem k_958 : Cond.selects "VotedTripleModel" y_M_flip y_M_flip ∈ tb := tb_t 958 rfl (by decide +kernel)
set_option maxRecDepth 20000 in
theorem k_959 : Cond.code y_M_flip b_M_flip 6 none ∈ tb := tb_t 959 rfl (by decide +kernel)
set_option maxRecDepth 20000 in
theorem k_960 : Cond.methodLink "VotedTripleModel" 209 y_M_isModule ∈ tb := tb_t 960 rfl (by decide +kernel)
set_option maxRecDepth 20000 in
theorem k_961 : Cond.static y_M_isModule ∈ tb := tb_t 961 rfl (by decide +kernel)
set_option maxRecDepth 20000 in
theorem k_962 : Cond.code y_M_isModule b_M_isModule 1 (some .boolean) ∈ tb := tb_t 962 rfl (by decide +kernel)
set_option maxRecDepth 20000 in
theorem k_966 : Cond.code y_M_freeze b_M_freeze 3 (some .boolean) ∈ tb := tb_t 966 rfl (by decide +kernel)
set_option maxRecDepth 20000 in
theorem k_970 : Cond.code y_M_skip b_M_skip 2 (some .boolean) ∈ tb := tb_t 970 rfl (by decide +kernel)
set_option maxRecDepth 20000 in
theorem k_974 : Cond.code y_M_swap b_M_swap 3 (some .boolean) ∈ tb := tb_t 974 rfl (by decide +kernel)
set_option maxRecDepth 20000 in
theorem k_978 : Cond.code y_M_allow b_M_allow 2 none ∈ tb := tb_t 978 rfl (by decide +kernel)
set_option maxRecDepth 20000 in
theorem k_979 : Cond.methodLink "VotedTripleLaw" 86 y_M_module ∈ tb := tb_t 979 rfl (by decide +kernel)
set_option maxRecDepth 20000 in
theorem k_980 : Cond.instanceMethod y_M_module ∈ tb := tb_t 980 rfl (by decide +kernel)
set_option maxRecDepth 20000 in
theorem k_981 : Cond.selects "VotedTripleModel" y_M_module y_M_module ∈ tb := tb_t 981 rfl (by decide +kernel)
set_option maxRecDepth 20000 in
theorem k_982 : Cond.code y_M_module b_M_module 3 (some .int) ∈ tb := tb_t 982 rfl (by decide +kernel)
set_option maxRecDepth 20000 in
theorem k_986 : Cond.code y_M_register b_M_register 3 (some .int) ∈ tb := tb_t 986 rfl (by decide +kernel)
set_option maxRecDepth 20000 in
theorem k_990 : Cond.code y_M_code b_M_code 3 (some .int) ∈ tb := tb_t 990 rfl (by decide +kernel)
set_option maxRecDepth 20000 in
theorem k_994 : Cond.code y_M_state b_M_state 2 (some .int) ∈ tb := tb_t 994 rfl (by decide +kernel)
set_option maxRecDepth 20000 in
theorem k_995 : Cond.arrayClass .long ∈ tb := tb_t 995 rfl (by decide +kernel)
theorem ks_0 : Cond.selects "VotedTriple" y_T_hasModule y_T_hasModule ∈ tb := tb_s 0 rfl (by decide +kernel)
theorem ks_1 : Cond.selects "VotedTriple" y_T_countInStep y_T_countInStep ∈ tb := tb_s 1 rfl (by decide +kernel)
theorem ks_2 : Cond.selects "VotedTriple" y_T_canGoOnWith y_T_canGoOnWith ∈ tb := tb_s 2 rfl (by decide +kernel)
theorem ks_3 : Cond.selects "VotedTriple" y_T_currentMode y_T_currentMode ∈ tb := tb_s 3 rfl (by decide +kernel)
theorem ks_5 : Cond.selects "VotedTriple" y_T_doOneStep y_T_doOneStep ∈ tb := tb_s 5 rfl (by decide +kernel)
theorem ks_6 : Cond.selects "VotedTriple" y_T_doInstructions y_T_doInstructions ∈ tb := tb_s 6 rfl (by decide +kernel)
theorem ks_7 : Cond.selects "VotedTriple" y_T_vote y_T_vote ∈ tb := tb_s 7 rfl (by decide +kernel)
theorem ks_8 : Cond.selects "VotedTriple" y_T_lowestTrusted y_T_lowestTrusted ∈ tb := tb_s 8 rfl (by decide +kernel)
theorem ks_9 : Cond.selects "VotedTriple" y_T_countBallots y_T_countBallots ∈ tb := tb_s 9 rfl (by decide +kernel)
theorem ks_10 : Cond.selects "VotedTriple" y_T_countTrusted y_T_countTrusted ∈ tb := tb_s 10 rfl (by decide +kernel)
theorem ks_11 : Cond.selects "VotedTriple" y_T_oneOfTheAlikePair y_T_oneOfTheAlikePair ∈ tb := tb_s 11 rfl (by decide +kernel)
theorem ks_12 : Cond.selects "VotedTriple" y_T_soundOneOfTwo y_T_soundOneOfTwo ∈ tb := tb_s 12 rfl (by decide +kernel)
theorem ks_13 : Cond.selects "VotedTriple" y_T_nameAllUnlike y_T_nameAllUnlike ∈ tb := tb_s 13 rfl (by decide +kernel)
theorem ks_14 : Cond.selects "VotedTriple" y_T_doWhatIsAgreed y_T_doWhatIsAgreed ∈ tb := tb_s 14 rfl (by decide +kernel)
theorem ks_15 : Cond.selects "VotedTriple" y_T_takeWord y_T_takeWord ∈ tb := tb_s 15 rfl (by decide +kernel)
theorem ks_16 : Cond.selects "VotedTriple" y_T_storeInCopies y_T_storeInCopies ∈ tb := tb_s 16 rfl (by decide +kernel)
theorem ks_17 : Cond.selects "VotedTriple" y_T_scrub y_T_scrub ∈ tb := tb_s 17 rfl (by decide +kernel)
theorem ks_18 : Cond.selects "VotedTriple" y_T_compareDigests y_T_compareDigests ∈ tb := tb_s 18 rfl (by decide +kernel)
theorem ks_19 : Cond.selects "VotedTriple" y_T_blameNamed y_T_blameNamed ∈ tb := tb_s 19 rfl (by decide +kernel)
theorem ks_20 : Cond.selects "VotedTriple" y_T_copyOn y_T_copyOn ∈ tb := tb_s 20 rfl (by decide +kernel)
theorem ks_21 : Cond.selects "VotedTriple" y_T_forgive y_T_forgive ∈ tb := tb_s 21 rfl (by decide +kernel)
theorem ks_22 : Cond.selects "VotedTripleModel" y_M_canStart y_M_canStart ∈ tb := tb_s 22 rfl (by decide +kernel)
theorem ks_23 : Cond.selects "VotedTripleModel" y_M_blank y_M_blank ∈ tb := tb_s 23 rfl (by decide +kernel)
theorem ks_24 : Cond.selects "VotedTripleModel" y_M_stepOnce y_M_stepOnce ∈ tb := tb_s 24 rfl (by decide +kernel)
theorem ks_25 : Cond.selects "VotedTripleModel" y_M_perfectStep y_M_perfectStep ∈ tb := tb_s 25 rfl (by decide +kernel)
theorem ks_26 : Cond.selects "VotedTripleModel" y_M_instruction y_M_instruction ∈ tb := tb_s 26 rfl (by decide +kernel)
theorem ks_27 : Cond.selects "VotedTripleModel" y_M_read y_M_read ∈ tb := tb_s 27 rfl (by decide +kernel)
theorem ks_28 : Cond.selects "VotedTripleModel" y_M_vote y_M_vote ∈ tb := tb_s 28 rfl (by decide +kernel)
theorem ks_29 : Cond.selects "VotedTripleModel" y_M_isLike y_M_isLike ∈ tb := tb_s 29 rfl (by decide +kernel)
theorem ks_30 : Cond.selects "VotedTripleModel" y_M_agreed y_M_agreed ∈ tb := tb_s 30 rfl (by decide +kernel)
theorem ks_31 : Cond.selects "VotedTripleModel" y_M_copyStore y_M_copyStore ∈ tb := tb_s 31 rfl (by decide +kernel)
theorem ks_32 : Cond.selects "VotedTripleModel" y_M_lowest y_M_lowest ∈ tb := tb_s 32 rfl (by decide +kernel)
theorem ks_33 : Cond.selects "VotedTripleModel" y_M_scrub y_M_scrub ∈ tb := tb_s 33 rfl (by decide +kernel)
theorem ks_34 : Cond.selects "VotedTripleModel" y_M_compareDigests y_M_compareDigests ∈ tb := tb_s 34 rfl (by decide +kernel)
theorem ks_35 : Cond.selects "VotedTripleModel" y_M_digest y_M_digest ∈ tb := tb_s 35 rfl (by decide +kernel)
theorem ks_36 : Cond.selects "VotedTripleModel" y_M_blameAll y_M_blameAll ∈ tb := tb_s 36 rfl (by decide +kernel)
theorem ks_37 : Cond.selects "VotedTripleModel" y_M_inStep y_M_inStep ∈ tb := tb_s 37 rfl (by decide +kernel)
theorem ks_38 : Cond.selects "VotedTripleModel" y_M_copyAll y_M_copyAll ∈ tb := tb_s 38 rfl (by decide +kernel)
theorem in_T : ∀ w ∈ u_ws "VotedTriple" F_T 11, w ∈ tb := by
  show ∀ w ∈ [Cond.laysFinal "VotedTriple" "VotedTriple" "instructions" "LVotedTriple$Program;", Cond.laysFinal "VotedTriple" "VotedTriple" "modules" "[LVotedTriple$VotedModule;", Cond.laysFinal "VotedTriple" "VotedTriple" "perfectOne" "LVotedTriple$PerfectOne;", Cond.laysFinal "VotedTriple" "VotedTriple" "wordsIn" "LVotedTriple$WordsIn;", Cond.laysFinal "VotedTriple" "VotedTriple" "wordsOut" "LVotedTriple$WordsOut;", Cond.lays "VotedTriple" "VotedTriple" "started" "Z", Cond.lays "VotedTriple" "VotedTriple" "safe" "Z", Cond.lays "VotedTriple" "VotedTriple" "singleAllowed" "Z", Cond.lays "VotedTriple" "VotedTriple" "steps" "I", Cond.lays "VotedTriple" "VotedTriple" "stepsNotAlike" "I", Cond.lays "VotedTriple" "VotedTriple" "wordsTaken" "I"], w ∈ tb
  exact List.forall_mem_cons.mpr ⟨k_205, List.forall_mem_cons.mpr ⟨k_207, List.forall_mem_cons.mpr ⟨k_209, List.forall_mem_cons.mpr ⟨k_211, List.forall_mem_cons.mpr ⟨k_213, List.forall_mem_cons.mpr ⟨k_215, List.forall_mem_cons.mpr ⟨k_217, List.forall_mem_cons.mpr ⟨k_219, List.forall_mem_cons.mpr ⟨k_221, List.forall_mem_cons.mpr ⟨k_223, List.forall_mem_cons.mpr ⟨k_225, fun _ h => absurd h List.not_mem_nil⟩⟩⟩⟩⟩⟩⟩⟩⟩⟩⟩
theorem in_P : ∀ w ∈ u_ws "VotedTriple$Program" F_P 2, w ∈ tb := by
  show ∀ w ∈ [Cond.laysFinal "VotedTriple$Program" "VotedTriple$Program" "words" "[I", Cond.lays "VotedTriple$Program" "VotedTriple$Program" "count" "I"], w ∈ tb
  exact List.forall_mem_cons.mpr ⟨k_34, List.forall_mem_cons.mpr ⟨k_36, fun _ h => absurd h List.not_mem_nil⟩⟩
theorem in_D : ∀ w ∈ u_ws "VotedTriple$VotedModule" F_D 19, w ∈ tb := by
  show ∀ w ∈ [Cond.laysFinal "VotedTriple$VotedModule" "VotedTriple$Processor" "registers" "[I", Cond.lays "VotedTriple$VotedModule" "VotedTriple$Processor" "counter" "I", Cond.lays "VotedTriple$VotedModule" "VotedTriple$Processor" "wish" "I", Cond.lays "VotedTriple$VotedModule" "VotedTriple$Processor" "wishedWord" "I", Cond.lays "VotedTriple$VotedModule" "VotedTriple$Processor" "inRegister" "I", Cond.lays "VotedTriple$VotedModule" "VotedTriple$Processor" "storedAt" "I", Cond.lays "VotedTriple$VotedModule" "VotedTriple$Processor" "storedWord" "I", Cond.laysFinal "VotedTriple$VotedModule" "VotedTriple$VotedModule" "codes" "[I", Cond.lays "VotedTriple$VotedModule" "VotedTriple$VotedModule" "status" "I", Cond.lays "VotedTriple$VotedModule" "VotedTriple$VotedModule" "mark" "I", Cond.lays "VotedTriple$VotedModule" "VotedTriple$VotedModule" "blame" "I", Cond.lays "VotedTriple$VotedModule" "VotedTriple$VotedModule" "frozen" "Z", Cond.lays "VotedTriple$VotedModule" "VotedTriple$VotedModule" "toSkip" "Z", Cond.lays "VotedTriple$VotedModule" "VotedTriple$VotedModule" "putRight" "I", Cond.lays "VotedTriple$VotedModule" "VotedTriple$VotedModule" "timesNamed" "I", Cond.lays "VotedTriple$VotedModule" "VotedTriple$VotedModule" "named" "Z", Cond.lays "VotedTriple$VotedModule" "VotedTriple$VotedModule" "readSpoilt" "Z", Cond.lays "VotedTriple$VotedModule" "VotedTriple$VotedModule" "scrubFoundSpoilt" "Z", Cond.lays "VotedTriple$VotedModule" "VotedTriple$VotedModule" "ballot" "I"], w ∈ tb
  exact List.forall_mem_cons.mpr ⟨k_186, List.forall_mem_cons.mpr ⟨k_187, List.forall_mem_cons.mpr ⟨k_188, List.forall_mem_cons.mpr ⟨k_189, List.forall_mem_cons.mpr ⟨k_190, List.forall_mem_cons.mpr ⟨k_191, List.forall_mem_cons.mpr ⟨k_192, List.forall_mem_cons.mpr ⟨k_162, List.forall_mem_cons.mpr ⟨k_164, List.forall_mem_cons.mpr ⟨k_166, List.forall_mem_cons.mpr ⟨k_168, List.forall_mem_cons.mpr ⟨k_170, List.forall_mem_cons.mpr ⟨k_172, List.forall_mem_cons.mpr ⟨k_174, List.forall_mem_cons.mpr ⟨k_176, List.forall_mem_cons.mpr ⟨k_178, List.forall_mem_cons.mpr ⟨k_180, List.forall_mem_cons.mpr ⟨k_182, List.forall_mem_cons.mpr ⟨k_184, fun _ h => absurd h List.not_mem_nil⟩⟩⟩⟩⟩⟩⟩⟩⟩⟩⟩⟩⟩⟩⟩⟩⟩⟩⟩
theorem in_E : ∀ w ∈ u_ws "VotedTriple$PerfectOne" F_E 10, w ∈ tb := by
  show ∀ w ∈ [Cond.laysFinal "VotedTriple$PerfectOne" "VotedTriple$Processor" "registers" "[I", Cond.lays "VotedTriple$PerfectOne" "VotedTriple$Processor" "counter" "I", Cond.lays "VotedTriple$PerfectOne" "VotedTriple$Processor" "wish" "I", Cond.lays "VotedTriple$PerfectOne" "VotedTriple$Processor" "wishedWord" "I", Cond.lays "VotedTriple$PerfectOne" "VotedTriple$Processor" "inRegister" "I", Cond.lays "VotedTriple$PerfectOne" "VotedTriple$Processor" "storedAt" "I", Cond.lays "VotedTriple$PerfectOne" "VotedTriple$Processor" "storedWord" "I", Cond.laysFinal "VotedTriple$PerfectOne" "VotedTriple$PerfectOne" "wordsOut" "LVotedTriple$WordsOut;", Cond.laysFinal "VotedTriple$PerfectOne" "VotedTriple$PerfectOne" "words" "[I", Cond.lays "VotedTriple$PerfectOne" "VotedTriple$PerfectOne" "wordsTaken" "I"], w ∈ tb
  exact List.forall_mem_cons.mpr ⟨k_103, List.forall_mem_cons.mpr ⟨k_105, List.forall_mem_cons.mpr ⟨k_107, List.forall_mem_cons.mpr ⟨k_109, List.forall_mem_cons.mpr ⟨k_111, List.forall_mem_cons.mpr ⟨k_113, List.forall_mem_cons.mpr ⟨k_115, List.forall_mem_cons.mpr ⟨k_97, List.forall_mem_cons.mpr ⟨k_99, List.forall_mem_cons.mpr ⟨k_101, fun _ h => absurd h List.not_mem_nil⟩⟩⟩⟩⟩⟩⟩⟩⟩⟩
theorem in_N : ∀ w ∈ u_ws "VotedTriple$WordsIn" F_N 2, w ∈ tb := by
  show ∀ w ∈ [Cond.laysFinal "VotedTriple$WordsIn" "VotedTriple$WordsIn" "words" "[I", Cond.lays "VotedTriple$WordsIn" "VotedTriple$WordsIn" "count" "I"], w ∈ tb
  exact List.forall_mem_cons.mpr ⟨k_128, List.forall_mem_cons.mpr ⟨k_130, fun _ h => absurd h List.not_mem_nil⟩⟩
theorem in_O : ∀ w ∈ u_ws "VotedTriple$WordsOut" F_O 2, w ∈ tb := by
  show ∀ w ∈ [Cond.laysFinal "VotedTriple$WordsOut" "VotedTriple$WordsOut" "kept" "[I", Cond.lays "VotedTriple$WordsOut" "VotedTriple$WordsOut" "count" "I"], w ∈ tb
  exact List.forall_mem_cons.mpr ⟨k_61, List.forall_mem_cons.mpr ⟨k_63, fun _ h => absurd h List.not_mem_nil⟩⟩
theorem in_M : ∀ w ∈ u_ws "VotedTripleModel" F_M 37, w ∈ tb := by
  show ∀ w ∈ [Cond.lays "VotedTripleModel" "VotedTripleModel" "thrown" "I", Cond.lays "VotedTripleModel" "VotedTripleModel" "size" "I", Cond.laysFinal "VotedTripleModel" "VotedTripleModel" "code" "[I", Cond.lays "VotedTripleModel" "VotedTripleModel" "started" "Z", Cond.lays "VotedTripleModel" "VotedTripleModel" "safe" "Z", Cond.lays "VotedTripleModel" "VotedTripleModel" "single" "Z", Cond.lays "VotedTripleModel" "VotedTripleModel" "steps" "I", Cond.lays "VotedTripleModel" "VotedTripleModel" "unlike" "I", Cond.laysFinal "VotedTripleModel" "VotedTripleModel" "register" "[I", Cond.laysFinal "VotedTripleModel" "VotedTripleModel" "cell" "[I", Cond.laysFinal "VotedTripleModel" "VotedTripleModel" "counter" "[I", Cond.laysFinal "VotedTripleModel" "VotedTripleModel" "state" "[I", Cond.laysFinal "VotedTripleModel" "VotedTripleModel" "mark" "[I", Cond.laysFinal "VotedTripleModel" "VotedTripleModel" "blame" "[I", Cond.laysFinal "VotedTripleModel" "VotedTripleModel" "frozen" "[Z", Cond.laysFinal "VotedTripleModel" "VotedTripleModel" "skips" "[Z", Cond.laysFinal "VotedTripleModel" "VotedTripleModel" "mended" "[I", Cond.laysFinal "VotedTripleModel" "VotedTripleModel" "namedTimes" "[I", Cond.laysFinal "VotedTripleModel" "VotedTripleModel" "wish" "[I", Cond.laysFinal "VotedTripleModel" "VotedTripleModel" "spoilt" "[Z", Cond.laysFinal "VotedTripleModel" "VotedTripleModel" "inTo" "[I", Cond.laysFinal "VotedTripleModel" "VotedTripleModel" "storeAt" "[I", Cond.laysFinal "VotedTripleModel" "VotedTripleModel" "storeWord" "[I", Cond.laysFinal "VotedTripleModel" "VotedTripleModel" "named" "[Z", Cond.lays "VotedTripleModel" "VotedTripleModel" "readSpoilt" "Z", Cond.lays "VotedTripleModel" "VotedTripleModel" "jump" "I", Cond.lays "VotedTripleModel" "VotedTripleModel" "came" "I", Cond.lays "VotedTripleModel" "VotedTripleModel" "used" "I", Cond.laysFinal "VotedTripleModel" "VotedTripleModel" "inputs" "[I", Cond.lays "VotedTripleModel" "VotedTripleModel" "went" "I", Cond.laysFinal "VotedTripleModel" "VotedTripleModel" "outputs" "[I", Cond.laysFinal "VotedTripleModel" "VotedTripleModel" "ownRegister" "[I", Cond.laysFinal "VotedTripleModel" "VotedTripleModel" "ownWord" "[I", Cond.lays "VotedTripleModel" "VotedTripleModel" "ownCounter" "I", Cond.lays "VotedTripleModel" "VotedTripleModel" "ownUsed" "I", Cond.lays "VotedTripleModel" "VotedTripleModel" "ownWent" "I", Cond.laysFinal "VotedTripleModel" "VotedTripleModel" "ownOutputs" "[I"], w ∈ tb
  exact List.forall_mem_cons.mpr ⟨k_760, List.forall_mem_cons.mpr ⟨k_762, List.forall_mem_cons.mpr ⟨k_764, List.forall_mem_cons.mpr ⟨k_766, List.forall_mem_cons.mpr ⟨k_768, List.forall_mem_cons.mpr ⟨k_770, List.forall_mem_cons.mpr ⟨k_772, List.forall_mem_cons.mpr ⟨k_774, List.forall_mem_cons.mpr ⟨k_776, List.forall_mem_cons.mpr ⟨k_778, List.forall_mem_cons.mpr ⟨k_780, List.forall_mem_cons.mpr ⟨k_782, List.forall_mem_cons.mpr ⟨k_784, List.forall_mem_cons.mpr ⟨k_786, List.forall_mem_cons.mpr ⟨k_788, List.forall_mem_cons.mpr ⟨k_790, List.forall_mem_cons.mpr ⟨k_792, List.forall_mem_cons.mpr ⟨k_794, List.forall_mem_cons.mpr ⟨k_796, List.forall_mem_cons.mpr ⟨k_798, List.forall_mem_cons.mpr ⟨k_800, List.forall_mem_cons.mpr ⟨k_802, List.forall_mem_cons.mpr ⟨k_804, List.forall_mem_cons.mpr ⟨k_806, List.forall_mem_cons.mpr ⟨k_808, List.forall_mem_cons.mpr ⟨k_810, List.forall_mem_cons.mpr ⟨k_812, List.forall_mem_cons.mpr ⟨k_814, List.forall_mem_cons.mpr ⟨k_816, List.forall_mem_cons.mpr ⟨k_818, List.forall_mem_cons.mpr ⟨k_820, List.forall_mem_cons.mpr ⟨k_822, List.forall_mem_cons.mpr ⟨k_824, List.forall_mem_cons.mpr ⟨k_826, List.forall_mem_cons.mpr ⟨k_828, List.forall_mem_cons.mpr ⟨k_830, List.forall_mem_cons.mpr ⟨k_832, fun _ h => absurd h List.not_mem_nil⟩⟩⟩⟩⟩⟩⟩⟩⟩⟩⟩⟩⟩⟩⟩⟩⟩⟩⟩⟩⟩⟩⟩⟩⟩⟩⟩⟩⟩⟩⟩⟩⟩⟩⟩⟩⟩
/-! words that ride along, for they are not said of every warmer table: nests, casts; the array over the modules -/
def nw (U : State) : Prop := va_Nw (Cond.methodLinkNest "VotedTriple" 9 y_P_init "VotedTriple") U ∧ va_Nw (Cond.methodLinkNest "VotedTriple" 24 y_E_init "VotedTriple") U ∧ va_Nw (Cond.methodLinkNest "VotedTriple$PerfectOne" 3 y_C_init "VotedTriple") U ∧ va_Nw (Cond.methodLinkNest "VotedTriple$PerfectOne" 11 y_O_init "VotedTriple") U ∧ va_Nw (Cond.methodLinkNest "VotedTriple" 31 y_N_init "VotedTriple") U ∧ va_Nw (Cond.methodLinkNest "VotedTriple" 38 y_O_init "VotedTriple") U ∧ va_Nw (Cond.methodLinkNest "VotedTriple" 43 y_D_init "VotedTriple") U ∧ va_Nw (Cond.methodLinkNest "VotedTriple$VotedModule" 3 y_C_init "VotedTriple") U ∧ va_Nw (Cond.castable "java/lang/IllegalStateException" "java/lang/IllegalStateException") U ∧ va_Nw (Cond.declares ⟨"java/lang/RuntimeException", "<init>", "(Ljava/lang/String;)V"⟩) U ∧ va_Nw (Cond.declares ⟨"java/lang/Exception", "<init>", "(Ljava/lang/String;)V"⟩) U ∧ va_Nw (Cond.declares ⟨"java/lang/Throwable", "<init>", "(Ljava/lang/String;)V"⟩) U ∧ va_Nw (Cond.castable "java/lang/IllegalArgumentException" "java/lang/IllegalArgumentException") U ∧ va_Nw (Cond.declares ⟨"VotedTriple$Processor", "readWord", "(I)I"⟩) U ∧ va_Nw (Cond.declares ⟨"VotedTriple$Processor", "writeWord", "(II)V"⟩) U ∧ va_Nw (Cond.castable "java/lang/IndexOutOfBoundsException" "java/lang/IndexOutOfBoundsException") U ∧ va_AO "VotedTriple$VotedModule" U
theorem nw_28 {U : State} (h : nw U) : va_Nw (Cond.methodLinkNest "VotedTriple" 9 y_P_init "VotedTriple") U := h.1
theorem nw_44 {U : State} (h : nw U) : va_Nw (Cond.methodLinkNest "VotedTriple" 24 y_E_init "VotedTriple") U := h.2.1
theorem nw_47 {U : State} (h : nw U) : va_Nw (Cond.methodLinkNest "VotedTriple$PerfectOne" 3 y_C_init "VotedTriple") U := h.2.2.1
theorem nw_53 {U : State} (h : nw U) : va_Nw (Cond.methodLinkNest "VotedTriple$PerfectOne" 11 y_O_init "VotedTriple") U := h.2.2.2.1
theorem nw_120 {U : State} (h : nw U) : va_Nw (Cond.methodLinkNest "VotedTriple" 31 y_N_init "VotedTriple") U := h.2.2.2.2.1
theorem nw_134 {U : State} (h : nw U) : va_Nw (Cond.methodLinkNest "VotedTriple" 38 y_O_init "VotedTriple") U := h.2.2.2.2.2.1
theorem nw_136 {U : State} (h : nw U) : va_Nw (Cond.methodLinkNest "VotedTriple" 43 y_D_init "VotedTriple") U := h.2.2.2.2.2.2.1
theorem nw_139 {U : State} (h : nw U) : va_Nw (Cond.methodLinkNest "VotedTriple$VotedModule" 3 y_C_init "VotedTriple") U := h.2.2.2.2.2.2.2.1
theorem nw_395 {U : State} (h : nw U) : va_Nw (Cond.castable "java/lang/IllegalStateException" "java/lang/IllegalStateException") U := h.2.2.2.2.2.2.2.2.1
theorem nw_397 {U : State} (h : nw U) : va_Nw (Cond.declares ⟨"java/lang/RuntimeException", "<init>", "(Ljava/lang/String;)V"⟩) U := h.2.2.2.2.2.2.2.2.2.1
theorem nw_399 {U : State} (h : nw U) : va_Nw (Cond.declares ⟨"java/lang/Exception", "<init>", "(Ljava/lang/String;)V"⟩) U := h.2.2.2.2.2.2.2.2.2.2.1
theorem nw_401 {U : State} (h : nw U) : va_Nw (Cond.declares ⟨"java/lang/Throwable", "<init>", "(Ljava/lang/String;)V"⟩) U := h.2.2.2.2.2.2.2.2.2.2.2.1
theorem nw_463 {U : State} (h : nw U) : va_Nw (Cond.castable "java/lang/IllegalArgumentException" "java/lang/IllegalArgumentException") U := h.2.2.2.2.2.2.2.2.2.2.2.2.1
theorem nw_514 {U : State} (h : nw U) : va_Nw (Cond.declares ⟨"VotedTriple$Processor", "readWord", "(I)I"⟩) U := h.2.2.2.2.2.2.2.2.2.2.2.2.2.1
theorem nw_532 {U : State} (h : nw U) : va_Nw (Cond.declares ⟨"VotedTriple$Processor", "writeWord", "(II)V"⟩) U := h.2.2.2.2.2.2.2.2.2.2.2.2.2.2.1
theorem nw_681 {U : State} (h : nw U) : va_Nw (Cond.castable "java/lang/IndexOutOfBoundsException" "java/lang/IndexOutOfBoundsException") U := h.2.2.2.2.2.2.2.2.2.2.2.2.2.2.2.1
theorem nw_ao {U : State} (h : nw U) : va_AO "VotedTriple$VotedModule" U := h.2.2.2.2.2.2.2.2.2.2.2.2.2.2.2.2
theorem nw_warm {s U : State} (hW : s.WarmedH U.vm) (h : nw s) : nw U := ⟨va_Nw.warmM hW (nw_28 h), va_Nw.warmM hW (nw_44 h), va_Nw.warmM hW (nw_47 h), va_Nw.warmM hW (nw_53 h), va_Nw.warmM hW (nw_120 h), va_Nw.warmM hW (nw_134 h), va_Nw.warmM hW (nw_136 h), va_Nw.warmM hW (nw_139 h), va_Nw.warmC hW (nw_395 h), va_Nw.warmD hW (nw_397 h), va_Nw.warmD hW (nw_399 h), va_Nw.warmD hW (nw_401 h), va_Nw.warmC hW (nw_463 h), va_Nw.warmD hW (nw_514 h), va_Nw.warmD hW (nw_532 h), va_Nw.warmC hW (nw_681 h), va_AO.moved hW.alike (nw_ao h)⟩
theorem nw_vm {u U : State} (hv : u.vm = U.vm) (h : nw u) : nw U := ⟨va_Nw.same rfl hv (nw_28 h), va_Nw.same rfl hv (nw_44 h), va_Nw.same rfl hv (nw_47 h), va_Nw.same rfl hv (nw_53 h), va_Nw.same rfl hv (nw_120 h), va_Nw.same rfl hv (nw_134 h), va_Nw.same rfl hv (nw_136 h), va_Nw.same rfl hv (nw_139 h), va_Nw.same rfl hv (nw_395 h), va_Nw.same rfl hv (nw_397 h), va_Nw.same rfl hv (nw_399 h), va_Nw.same rfl hv (nw_401 h), va_Nw.same rfl hv (nw_463 h), va_Nw.same rfl hv (nw_514 h), va_Nw.same rfl hv (nw_532 h), va_Nw.same rfl hv (nw_681 h), va_AO.moved (by rw [hv]; exact Vm.Alike.refl _) (nw_ao h)⟩
theorem nw_of {A : Array Value} {s : State} (h : ∀ w ∈ lw_tbl, w.before A s = true) : nw s := ⟨va_Nw.of rfl (h _ (List.mem_append_right _ (List.mem_of_getElem? (i := 28) (by decide +kernel)))), va_Nw.of rfl (h _ (List.mem_append_right _ (List.mem_of_getElem? (i := 44) (by decide +kernel)))), va_Nw.of rfl (h _ (List.mem_append_right _ (List.mem_of_getElem? (i := 47) (by decide +kernel)))), va_Nw.of rfl (h _ (List.mem_append_right _ (List.mem_of_getElem? (i := 53) (by decide +kernel)))), va_Nw.of rfl (h _ (List.mem_append_right _ (List.mem_of_getElem? (i := 120) (by decide +kernel)))), va_Nw.of rfl (h _ (List.mem_append_right _ (List.mem_of_getElem? (i := 134) (by decide +kernel)))), va_Nw.of rfl (h _ (List.mem_append_right _ (List.mem_of_getElem? (i := 136) (by decide +kernel)))), va_Nw.of rfl (h _ (List.mem_append_right _ (List.mem_of_getElem? (i := 139) (by decide +kernel)))), va_Nw.of rfl (h _ (List.mem_append_right _ (List.mem_of_getElem? (i := 395) (by decide +kernel)))), va_Nw.of rfl (h _ (List.mem_append_right _ (List.mem_of_getElem? (i := 397) (by decide +kernel)))), va_Nw.of rfl (h _ (List.mem_append_right _ (List.mem_of_getElem? (i := 399) (by decide +kernel)))), va_Nw.of rfl (h _ (List.mem_append_right _ (List.mem_of_getElem? (i := 401) (by decide +kernel)))), va_Nw.of rfl (h _ (List.mem_append_right _ (List.mem_of_getElem? (i := 463) (by decide +kernel)))), va_Nw.of rfl (h _ (List.mem_append_right _ (List.mem_of_getElem? (i := 514) (by decide +kernel)))), va_Nw.of rfl (h _ (List.mem_append_right _ (List.mem_of_getElem? (i := 532) (by decide +kernel)))), va_Nw.of rfl (h _ (List.mem_append_right _ (List.mem_of_getElem? (i := 681) (by decide +kernel)))), va_AO.of (h _ (List.mem_append_right _ (List.mem_of_getElem? (i := 41) (by decide +kernel))))⟩
