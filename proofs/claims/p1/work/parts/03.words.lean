/-! words of the tables that are used, by their places -/
def tb : List Cond := lw_tbl.filter goodWord
theorem tb_mem {w : Cond} (h : w ∈ lw_tbl) (g : goodWord w = true) : w ∈ tb := List.mem_filter.mpr ⟨h, g⟩
theorem tb_t {w : Cond} (i : Nat) (h : tables_1[i]? = some w) (g : goodWord w = true) : w ∈ tb := tb_mem (List.mem_append_right _ (List.mem_of_getElem? h)) g
theorem tb_s {w : Cond} (i : Nat) (h : (k2_sels lw_privs)[i]? = some w) (g : goodWord w = true) : w ∈ tb := tb_mem (List.mem_append_left _ (List.mem_of_getElem? h)) g
theorem tb_in {w : Cond} (h : w ∈ tb) : w ∈ lw_tbl := (List.mem_filter.mp h).1
theorem tb_good {w : Cond} (h : w ∈ tb) : (w.onTables && w.keeps) = true ∨ ∃ ty, w = .arrayClass ty := good_of_word (List.mem_filter.mp h).2
abbrev tbw (y : MethodName) (b : ByteArray) (n : Nat) (r : Option FieldType) : List Cond := Cond.code y b n r :: tb
theorem gd {y : MethodName} {b : ByteArray} {n : Nat} {r : Option FieldType} (hc : Cond.code y b n r ∈ tb) : GoodIn tb (tbw y b n r) := fun w h => (List.mem_cons.mp h).elim (fun e => e ▸ ⟨hc, tb_good hc⟩) (fun h => ⟨h, tb_good h⟩)
theorem gd_l {l ws : List Cond} (h1 : ∀ w ∈ l, w ∈ tb) (h2 : GoodIn tb ws) : GoodIn tb (l ++ ws) := fun w h => (List.mem_append.mp h).elim (fun h => ⟨h1 w h, tb_good (h1 w h)⟩) (h2 w)
theorem gdS {y : MethodName} {b : ByteArray} {n i : Nat} {r : Option FieldType} {own : String} (hc : Cond.code y b n r ∈ tb) (hl : Cond.methodLink own i y ∈ tb) (hs : Cond.static y ∈ tb) (hi : Cond.initialized y.cls ∈ tb) : GoodIn tb (va_wsS own i y (tbw y b n r)) := gd_l (List.forall_mem_cons.mpr ⟨hl, List.forall_mem_cons.mpr ⟨hs, List.forall_mem_cons.mpr ⟨hi, fun _ h => absurd h List.not_mem_nil⟩⟩⟩) (gd hc)
theorem gdV {y : MethodName} {b : ByteArray} {n i : Nat} {r : Option FieldType} {own C : String} (hc : Cond.code y b n r ∈ tb) (hl : Cond.methodLink own i y ∈ tb) (hs : Cond.instanceMethod y ∈ tb) (he : Cond.selects C y y ∈ tb) (hi : Cond.initialized C ∈ tb) : GoodIn tb (wsV own i C y (tbw y b n r)) := gd_l (List.forall_mem_cons.mpr ⟨hl, List.forall_mem_cons.mpr ⟨hs, List.forall_mem_cons.mpr ⟨he, List.forall_mem_cons.mpr ⟨hi, fun _ h => absurd h List.not_mem_nil⟩⟩⟩⟩) (gd hc)
theorem k_2 : Cond.initialized "VotedTriple$Program" ∈ tb := tb_t 2 (by decide +kernel) (by decide +kernel)
theorem k_34 : Cond.laysFinal "VotedTriple$Program" "VotedTriple$Program" "words" "[I" ∈ tb := tb_t 34 (by decide +kernel) (by decide +kernel)
theorem k_36 : Cond.lays "VotedTriple$Program" "VotedTriple$Program" "count" "I" ∈ tb := tb_t 36 (by decide +kernel) (by decide +kernel)
theorem k_61 : Cond.laysFinal "VotedTriple$WordsOut" "VotedTriple$WordsOut" "kept" "[I" ∈ tb := tb_t 61 (by decide +kernel) (by decide +kernel)
theorem k_63 : Cond.lays "VotedTriple$WordsOut" "VotedTriple$WordsOut" "count" "I" ∈ tb := tb_t 63 (by decide +kernel) (by decide +kernel)
theorem k_97 : Cond.laysFinal "VotedTriple$PerfectOne" "VotedTriple$PerfectOne" "wordsOut" "LVotedTriple$WordsOut;" ∈ tb := tb_t 97 (by decide +kernel) (by decide +kernel)
theorem k_99 : Cond.laysFinal "VotedTriple$PerfectOne" "VotedTriple$PerfectOne" "words" "[I" ∈ tb := tb_t 99 (by decide +kernel) (by decide +kernel)
theorem k_101 : Cond.lays "VotedTriple$PerfectOne" "VotedTriple$PerfectOne" "wordsTaken" "I" ∈ tb := tb_t 101 (by decide +kernel) (by decide +kernel)
theorem k_103 : Cond.laysFinal "VotedTriple$PerfectOne" "VotedTriple$Processor" "registers" "[I" ∈ tb := tb_t 103 (by decide +kernel) (by decide +kernel)
theorem k_105 : Cond.lays "VotedTriple$PerfectOne" "VotedTriple$Processor" "counter" "I" ∈ tb := tb_t 105 (by decide +kernel) (by decide +kernel)
theorem k_107 : Cond.lays "VotedTriple$PerfectOne" "VotedTriple$Processor" "wish" "I" ∈ tb := tb_t 107 (by decide +kernel) (by decide +kernel)
theorem k_109 : Cond.lays "VotedTriple$PerfectOne" "VotedTriple$Processor" "wishedWord" "I" ∈ tb := tb_t 109 (by decide +kernel) (by decide +kernel)
theorem k_111 : Cond.lays "VotedTriple$PerfectOne" "VotedTriple$Processor" "inRegister" "I" ∈ tb := tb_t 111 (by decide +kernel) (by decide +kernel)
theorem k_113 : Cond.lays "VotedTriple$PerfectOne" "VotedTriple$Processor" "storedAt" "I" ∈ tb := tb_t 113 (by decide +kernel) (by decide +kernel)
theorem k_115 : Cond.lays "VotedTriple$PerfectOne" "VotedTriple$Processor" "storedWord" "I" ∈ tb := tb_t 115 (by decide +kernel) (by decide +kernel)
theorem k_128 : Cond.laysFinal "VotedTriple$WordsIn" "VotedTriple$WordsIn" "words" "[I" ∈ tb := tb_t 128 (by decide +kernel) (by decide +kernel)
theorem k_130 : Cond.lays "VotedTriple$WordsIn" "VotedTriple$WordsIn" "count" "I" ∈ tb := tb_t 130 (by decide +kernel) (by decide +kernel)
theorem k_162 : Cond.laysFinal "VotedTriple$VotedModule" "VotedTriple$VotedModule" "codes" "[I" ∈ tb := tb_t 162 (by decide +kernel) (by decide +kernel)
theorem k_164 : Cond.lays "VotedTriple$VotedModule" "VotedTriple$VotedModule" "status" "I" ∈ tb := tb_t 164 (by decide +kernel) (by decide +kernel)
theorem k_166 : Cond.lays "VotedTriple$VotedModule" "VotedTriple$VotedModule" "mark" "I" ∈ tb := tb_t 166 (by decide +kernel) (by decide +kernel)
theorem k_168 : Cond.lays "VotedTriple$VotedModule" "VotedTriple$VotedModule" "blame" "I" ∈ tb := tb_t 168 (by decide +kernel) (by decide +kernel)
theorem k_170 : Cond.lays "VotedTriple$VotedModule" "VotedTriple$VotedModule" "frozen" "Z" ∈ tb := tb_t 170 (by decide +kernel) (by decide +kernel)
theorem k_172 : Cond.lays "VotedTriple$VotedModule" "VotedTriple$VotedModule" "toSkip" "Z" ∈ tb := tb_t 172 (by decide +kernel) (by decide +kernel)
theorem k_174 : Cond.lays "VotedTriple$VotedModule" "VotedTriple$VotedModule" "putRight" "I" ∈ tb := tb_t 174 (by decide +kernel) (by decide +kernel)
theorem k_176 : Cond.lays "VotedTriple$VotedModule" "VotedTriple$VotedModule" "timesNamed" "I" ∈ tb := tb_t 176 (by decide +kernel) (by decide +kernel)
theorem k_178 : Cond.lays "VotedTriple$VotedModule" "VotedTriple$VotedModule" "named" "Z" ∈ tb := tb_t 178 (by decide +kernel) (by decide +kernel)
theorem k_180 : Cond.lays "VotedTriple$VotedModule" "VotedTriple$VotedModule" "readSpoilt" "Z" ∈ tb := tb_t 180 (by decide +kernel) (by decide +kernel)
theorem k_182 : Cond.lays "VotedTriple$VotedModule" "VotedTriple$VotedModule" "scrubFoundSpoilt" "Z" ∈ tb := tb_t 182 (by decide +kernel) (by decide +kernel)
theorem k_184 : Cond.lays "VotedTriple$VotedModule" "VotedTriple$VotedModule" "ballot" "I" ∈ tb := tb_t 184 (by decide +kernel) (by decide +kernel)
theorem k_186 : Cond.laysFinal "VotedTriple$VotedModule" "VotedTriple$Processor" "registers" "[I" ∈ tb := tb_t 186 (by decide +kernel) (by decide +kernel)
theorem k_187 : Cond.lays "VotedTriple$VotedModule" "VotedTriple$Processor" "counter" "I" ∈ tb := tb_t 187 (by decide +kernel) (by decide +kernel)
theorem k_188 : Cond.lays "VotedTriple$VotedModule" "VotedTriple$Processor" "wish" "I" ∈ tb := tb_t 188 (by decide +kernel) (by decide +kernel)
theorem k_189 : Cond.lays "VotedTriple$VotedModule" "VotedTriple$Processor" "wishedWord" "I" ∈ tb := tb_t 189 (by decide +kernel) (by decide +kernel)
theorem k_190 : Cond.lays "VotedTriple$VotedModule" "VotedTriple$Processor" "inRegister" "I" ∈ tb := tb_t 190 (by decide +kernel) (by decide +kernel)
theorem k_191 : Cond.lays "VotedTriple$VotedModule" "VotedTriple$Processor" "storedAt" "I" ∈ tb := tb_t 191 (by decide +kernel) (by decide +kernel)
theorem k_192 : Cond.lays "VotedTriple$VotedModule" "VotedTriple$Processor" "storedWord" "I" ∈ tb := tb_t 192 (by decide +kernel) (by decide +kernel)
theorem k_205 : Cond.laysFinal "VotedTriple" "VotedTriple" "instructions" "LVotedTriple$Program;" ∈ tb := tb_t 205 (by decide +kernel) (by decide +kernel)
theorem k_207 : Cond.laysFinal "VotedTriple" "VotedTriple" "modules" "[LVotedTriple$VotedModule;" ∈ tb := tb_t 207 (by decide +kernel) (by decide +kernel)
theorem k_209 : Cond.laysFinal "VotedTriple" "VotedTriple" "perfectOne" "LVotedTriple$PerfectOne;" ∈ tb := tb_t 209 (by decide +kernel) (by decide +kernel)
theorem k_211 : Cond.laysFinal "VotedTriple" "VotedTriple" "wordsIn" "LVotedTriple$WordsIn;" ∈ tb := tb_t 211 (by decide +kernel) (by decide +kernel)
theorem k_213 : Cond.laysFinal "VotedTriple" "VotedTriple" "wordsOut" "LVotedTriple$WordsOut;" ∈ tb := tb_t 213 (by decide +kernel) (by decide +kernel)
theorem k_215 : Cond.lays "VotedTriple" "VotedTriple" "started" "Z" ∈ tb := tb_t 215 (by decide +kernel) (by decide +kernel)
theorem k_217 : Cond.lays "VotedTriple" "VotedTriple" "safe" "Z" ∈ tb := tb_t 217 (by decide +kernel) (by decide +kernel)
theorem k_219 : Cond.lays "VotedTriple" "VotedTriple" "singleAllowed" "Z" ∈ tb := tb_t 219 (by decide +kernel) (by decide +kernel)
theorem k_221 : Cond.lays "VotedTriple" "VotedTriple" "steps" "I" ∈ tb := tb_t 221 (by decide +kernel) (by decide +kernel)
theorem k_223 : Cond.lays "VotedTriple" "VotedTriple" "stepsNotAlike" "I" ∈ tb := tb_t 223 (by decide +kernel) (by decide +kernel)
theorem k_225 : Cond.lays "VotedTriple" "VotedTriple" "wordsTaken" "I" ∈ tb := tb_t 225 (by decide +kernel) (by decide +kernel)
theorem k_239 : Cond.methodLink "VotedTriple$Program" 23 y_P_opOf ∈ tb := tb_t 239 (by decide +kernel) (by decide +kernel)
theorem k_240 : Cond.static y_P_opOf ∈ tb := tb_t 240 (by decide +kernel) (by decide +kernel)
theorem k_241 : Cond.code y_P_opOf b_P_opOf 1 (some .int) ∈ tb := tb_t 241 (by decide +kernel) (by decide +kernel)
theorem k_242 : Cond.methodLink "VotedTriple$Program" 33 y_P_aOf ∈ tb := tb_t 242 (by decide +kernel) (by decide +kernel)
theorem k_243 : Cond.static y_P_aOf ∈ tb := tb_t 243 (by decide +kernel) (by decide +kernel)
theorem k_244 : Cond.code y_P_aOf b_P_aOf 1 (some .int) ∈ tb := tb_t 244 (by decide +kernel) (by decide +kernel)
theorem k_245 : Cond.methodLink "VotedTriple$Program" 36 y_P_isRegister ∈ tb := tb_t 245 (by decide +kernel) (by decide +kernel)
theorem k_246 : Cond.static y_P_isRegister ∈ tb := tb_t 246 (by decide +kernel) (by decide +kernel)
theorem k_247 : Cond.code y_P_isRegister b_P_isRegister 1 (some .boolean) ∈ tb := tb_t 247 (by decide +kernel) (by decide +kernel)
theorem k_248 : Cond.methodLink "VotedTriple$Program" 27 y_P_bOf ∈ tb := tb_t 248 (by decide +kernel) (by decide +kernel)
theorem k_249 : Cond.static y_P_bOf ∈ tb := tb_t 249 (by decide +kernel) (by decide +kernel)
theorem k_250 : Cond.code y_P_bOf b_P_bOf 1 (some .int) ∈ tb := tb_t 250 (by decide +kernel) (by decide +kernel)
theorem k_251 : Cond.methodLink "VotedTriple$Program" 39 y_P_cOf ∈ tb := tb_t 251 (by decide +kernel) (by decide +kernel)
theorem k_252 : Cond.static y_P_cOf ∈ tb := tb_t 252 (by decide +kernel) (by decide +kernel)
theorem k_253 : Cond.code y_P_cOf b_P_cOf 1 (some .int) ∈ tb := tb_t 253 (by decide +kernel) (by decide +kernel)
theorem k_760 : Cond.lays "VotedTripleModel" "VotedTripleModel" "thrown" "I" ∈ tb := tb_t 760 (by decide +kernel) (by decide +kernel)
theorem k_762 : Cond.lays "VotedTripleModel" "VotedTripleModel" "size" "I" ∈ tb := tb_t 762 (by decide +kernel) (by decide +kernel)
theorem k_764 : Cond.laysFinal "VotedTripleModel" "VotedTripleModel" "code" "[I" ∈ tb := tb_t 764 (by decide +kernel) (by decide +kernel)
theorem k_766 : Cond.lays "VotedTripleModel" "VotedTripleModel" "started" "Z" ∈ tb := tb_t 766 (by decide +kernel) (by decide +kernel)
theorem k_768 : Cond.lays "VotedTripleModel" "VotedTripleModel" "safe" "Z" ∈ tb := tb_t 768 (by decide +kernel) (by decide +kernel)
theorem k_770 : Cond.lays "VotedTripleModel" "VotedTripleModel" "single" "Z" ∈ tb := tb_t 770 (by decide +kernel) (by decide +kernel)
theorem k_772 : Cond.lays "VotedTripleModel" "VotedTripleModel" "steps" "I" ∈ tb := tb_t 772 (by decide +kernel) (by decide +kernel)
theorem k_774 : Cond.lays "VotedTripleModel" "VotedTripleModel" "unlike" "I" ∈ tb := tb_t 774 (by decide +kernel) (by decide +kernel)
theorem k_776 : Cond.laysFinal "VotedTripleModel" "VotedTripleModel" "register" "[I" ∈ tb := tb_t 776 (by decide +kernel) (by decide +kernel)
theorem k_778 : Cond.laysFinal "VotedTripleModel" "VotedTripleModel" "cell" "[I" ∈ tb := tb_t 778 (by decide +kernel) (by decide +kernel)
theorem k_780 : Cond.laysFinal "VotedTripleModel" "VotedTripleModel" "counter" "[I" ∈ tb := tb_t 780 (by decide +kernel) (by decide +kernel)
theorem k_782 : Cond.laysFinal "VotedTripleModel" "VotedTripleModel" "state" "[I" ∈ tb := tb_t 782 (by decide +kernel) (by decide +kernel)
theorem k_784 : Cond.laysFinal "VotedTripleModel" "VotedTripleModel" "mark" "[I" ∈ tb := tb_t 784 (by decide +kernel) (by decide +kernel)
theorem k_786 : Cond.laysFinal "VotedTripleModel" "VotedTripleModel" "blame" "[I" ∈ tb := tb_t 786 (by decide +kernel) (by decide +kernel)
theorem k_788 : Cond.laysFinal "VotedTripleModel" "VotedTripleModel" "frozen" "[Z" ∈ tb := tb_t 788 (by decide +kernel) (by decide +kernel)
theorem k_790 : Cond.laysFinal "VotedTripleModel" "VotedTripleModel" "skips" "[Z" ∈ tb := tb_t 790 (by decide +kernel) (by decide +kernel)
theorem k_792 : Cond.laysFinal "VotedTripleModel" "VotedTripleModel" "mended" "[I" ∈ tb := tb_t 792 (by decide +kernel) (by decide +kernel)
theorem k_794 : Cond.laysFinal "VotedTripleModel" "VotedTripleModel" "namedTimes" "[I" ∈ tb := tb_t 794 (by decide +kernel) (by decide +kernel)
theorem k_796 : Cond.laysFinal "VotedTripleModel" "VotedTripleModel" "wish" "[I" ∈ tb := tb_t 796 (by decide +kernel) (by decide +kernel)
theorem k_798 : Cond.laysFinal "VotedTripleModel" "VotedTripleModel" "spoilt" "[Z" ∈ tb := tb_t 798 (by decide +kernel) (by decide +kernel)
theorem k_800 : Cond.laysFinal "VotedTripleModel" "VotedTripleModel" "inTo" "[I" ∈ tb := tb_t 800 (by decide +kernel) (by decide +kernel)
theorem k_802 : Cond.laysFinal "VotedTripleModel" "VotedTripleModel" "storeAt" "[I" ∈ tb := tb_t 802 (by decide +kernel) (by decide +kernel)
theorem k_804 : Cond.laysFinal "VotedTripleModel" "VotedTripleModel" "storeWord" "[I" ∈ tb := tb_t 804 (by decide +kernel) (by decide +kernel)
theorem k_806 : Cond.laysFinal "VotedTripleModel" "VotedTripleModel" "named" "[Z" ∈ tb := tb_t 806 (by decide +kernel) (by decide +kernel)
theorem k_808 : Cond.lays "VotedTripleModel" "VotedTripleModel" "readSpoilt" "Z" ∈ tb := tb_t 808 (by decide +kernel) (by decide +kernel)
theorem k_810 : Cond.lays "VotedTripleModel" "VotedTripleModel" "jump" "I" ∈ tb := tb_t 810 (by decide +kernel) (by decide +kernel)
theorem k_812 : Cond.lays "VotedTripleModel" "VotedTripleModel" "came" "I" ∈ tb := tb_t 812 (by decide +kernel) (by decide +kernel)
theorem k_814 : Cond.lays "VotedTripleModel" "VotedTripleModel" "used" "I" ∈ tb := tb_t 814 (by decide +kernel) (by decide +kernel)
theorem k_816 : Cond.laysFinal "VotedTripleModel" "VotedTripleModel" "inputs" "[I" ∈ tb := tb_t 816 (by decide +kernel) (by decide +kernel)
theorem k_818 : Cond.lays "VotedTripleModel" "VotedTripleModel" "went" "I" ∈ tb := tb_t 818 (by decide +kernel) (by decide +kernel)
theorem k_820 : Cond.laysFinal "VotedTripleModel" "VotedTripleModel" "outputs" "[I" ∈ tb := tb_t 820 (by decide +kernel) (by decide +kernel)
theorem k_822 : Cond.laysFinal "VotedTripleModel" "VotedTripleModel" "ownRegister" "[I" ∈ tb := tb_t 822 (by decide +kernel) (by decide +kernel)
theorem k_824 : Cond.laysFinal "VotedTripleModel" "VotedTripleModel" "ownWord" "[I" ∈ tb := tb_t 824 (by decide +kernel) (by decide +kernel)
theorem k_826 : Cond.lays "VotedTripleModel" "VotedTripleModel" "ownCounter" "I" ∈ tb := tb_t 826 (by decide +kernel) (by decide +kernel)
theorem k_828 : Cond.lays "VotedTripleModel" "VotedTripleModel" "ownUsed" "I" ∈ tb := tb_t 828 (by decide +kernel) (by decide +kernel)
theorem k_830 : Cond.lays "VotedTripleModel" "VotedTripleModel" "ownWent" "I" ∈ tb := tb_t 830 (by decide +kernel) (by decide +kernel)
theorem k_832 : Cond.laysFinal "VotedTripleModel" "VotedTripleModel" "ownOutputs" "[I" ∈ tb := tb_t 832 (by decide +kernel) (by decide +kernel)
theorem in_T : ∀ w ∈ u_ws "VotedTriple" F_T 11, w ∈ tb := by
  show ∀ w ∈ [Cond.laysFinal "VotedTriple" "VotedTriple" "instructions" "LVotedTriple$Program;", Cond.laysFinal "VotedTriple" "VotedTriple" "modules" "[LVotedTriple$VotedModule;", Cond.laysFinal "VotedTriple" "VotedTriple" "perfectOne" "LVotedTriple$PerfectOne;", Cond.laysFinal "VotedTriple" "VotedTriple" "wordsIn" "LVotedTriple$WordsIn;", Cond.laysFinal "VotedTriple" "VotedTriple" "wordsOut" "LVotedTriple$WordsOut;", Cond.lays "VotedTriple" "VotedTriple" "started" "Z", Cond.lays "VotedTriple" "VotedTriple" "safe" "Z", Cond.lays "VotedTriple" "VotedTriple" "singleAllowed" "Z", Cond.lays "VotedTriple" "VotedTriple" "steps" "I", Cond.lays "VotedTriple" "VotedTriple" "stepsNotAlike" "I", Cond.lays "VotedTriple" "VotedTriple" "wordsTaken" "I"], w ∈ tb
  exact List.forall_mem_cons.mpr ⟨k_205, List.forall_mem_cons.mpr ⟨k_207, List.forall_mem_cons.mpr ⟨k_209, List.forall_mem_cons.mpr ⟨k_211, List.forall_mem_cons.mpr ⟨k_213, List.forall_mem_cons.mpr ⟨k_215, List.forall_mem_cons.mpr ⟨k_217, List.forall_mem_cons.mpr ⟨k_219, List.forall_mem_cons.mpr ⟨k_221, List.forall_mem_cons.mpr ⟨k_223, List.forall_mem_cons.mpr ⟨k_225, fun _ h => absurd h List.not_mem_nil⟩⟩⟩⟩⟩⟩⟩⟩⟩⟩⟩
theorem in_P : ∀ w ∈ u_ws "VotedTriple$Program" F_P 2, w ∈ tb := by
  show ∀ w ∈ [Cond.laysFinal "VotedTriple$Program" "VotedTriple$Program" "words" "[I", Cond.lays "VotedTriple$Program" "VotedTriple$Program" "count" "I"], w ∈ tb
  exact List.forall_mem_cons.mpr ⟨k_34, List.forall_mem_cons.mpr ⟨k_36, fun _ h => absurd h List.not_mem_nil⟩⟩
theorem in_D : ∀ w ∈ u_ws "VotedTriple$VotedModule" F_D 19, w ∈ tb := by
  show ∀ w ∈ [Cond.laysFinal "VotedTriple$VotedModule" "VotedTriple$Processor" "registers" "[I", Cond.lays "VotedTriple$VotedModule" "VotedTriple$Processor" "counter" "I", Cond.lays "VotedTriple$VotedModule" "VotedTriple$Processor" "wish" "I", Cond.lays "VotedTriple$VotedModule" "VotedTriple$Processor" "wishedWord" "I", Cond.lays "VotedTriple$VotedModule" "VotedTriple$Processor" "inRegister" "I", Cond.lays "VotedTriple$VotedModule" "VotedTriple$Processor" "storedAt" "I", Cond.lays "VotedTriple$VotedModule" "VotedTriple$Processor" "storedWord" "I", Cond.laysFinal "VotedTriple$VotedModule" "VotedTriple$VotedModule" "codes" "[I", Cond.lays "VotedTriple$VotedModule" "VotedTriple$VotedModule" "status" "I", Cond.lays "VotedTriple$VotedModule" "VotedTriple$VotedModule" "mark" "I", Cond.lays "VotedTriple$VotedModule" "VotedTriple$VotedModule" "blame" "I", Cond.lays "VotedTriple$VotedModule" "VotedTriple$VotedModule" "frozen" "Z", Cond.lays "VotedTriple$VotedModule" "VotedTriple$VotedModule" "toSkip" "Z", Cond.lays "VotedTriple$VotedModule" "VotedTriple$VotedModule" "putRight" "I", Cond.lays "VotedTriple$VotedModule" "VotedTriple$VotedModule" "timesNamed" "I", Cond.lays "VotedTriple$VotedModule" "VotedTriple$VotedModule" "named" "Z", Cond.lays "VotedTriple$VotedModule" "VotedTriple$VotedModule" "readSpoilt" "Z", Cond.lays "VotedTriple$VotedModule" "VotedTriple$VotedModule" "scrubFoundSpoilt" "Z", Cond.lays "VotedTriple$VotedModule" "VotedTriple$VotedModule" "ballot" "I"], w ∈ tb
  exact List.forall_mem_cons.mpr ⟨k_186, List.forall_mem_cons.mpr ⟨k_187, List.forall_mem_cons.mpr ⟨k_188, List.forall_mem_cons.mpr ⟨k_189, List.forall_mem_cons.mpr ⟨k_190, List.forall_mem_cons.mpr ⟨k_191, List.forall_mem_cons.mpr ⟨k_192, List.forall_mem_cons.mpr ⟨k_162, List.forall_mem_cons.mpr ⟨k_164, List.forall_mem_cons.mpr ⟨k_166, List.forall_mem_cons.mpr ⟨k_168, List.forall_mem_cons.mpr ⟨k_170, List.forall_mem_cons.mpr ⟨k_172, List.forall_mem_cons.mpr ⟨k_174, List.forall_mem_cons.mpr ⟨k_176, List.forall_mem_cons.mpr ⟨k_178, List.forall_mem_cons.mpr ⟨k_180, List.forall_mem_cons.mpr ⟨k_182, List.forall_mem_cons.mpr ⟨k_184, fun _ h => absurd h List.not_mem_nil⟩⟩⟩⟩⟩⟩⟩⟩⟩⟩⟩⟩⟩⟩⟩⟩⟩⟩⟩
theorem in_E : ∀ w ∈ u_ws "VotedTriple$PerfectOne" F_E 10, w ∈ tb := by
  show ∀ w ∈ [Cond.laysFinal "VotedTriple$PerfectOne" "VotedTriple$Processor" "registers" "[I", Cond.lays "VotedTriple$PerfectOne" "VotedTriple$Processor" "counter" "I", Cond.lays "VotedTriple$PerfectOne" "VotedTriple$Processor" "wish" "I", Cond.lays "VotedTriple$PerfectOne" "VotedTriple$Processor" "wishedWord" "I", Cond.lays "VotedTriple$PerfectOne" "VotedTriple$Processor" "inRegister" "I", Cond.lays "VotedTriple$PerfectOne" "VotedTriple$Processor" "storedAt" "I", Cond.lays "VotedTriple$PerfectOne" "VotedTriple$Processor" "storedWord" "I", Cond.laysFinal "VotedTriple$PerfectOne" "VotedTriple$PerfectOne" "wordsOut" "LVotedTriple$WordsOut;", Cond.laysFinal "VotedTriple$PerfectOne" "VotedTriple$PerfectOne" "words" "[I", Cond.lays "VotedTriple$PerfectOne" "VotedTriple$PerfectOne" "wordsTaken" "I"], w ∈ tb
  exact List.forall_mem_cons.mpr ⟨k_103, List.forall_mem_cons.mpr ⟨k_105, List.forall_mem_cons.mpr ⟨k_107, List.forall_mem_cons.mpr ⟨k_109, List.forall_mem_cons.mpr ⟨k_111, List.forall_mem_cons.mpr ⟨k_113, List.forall_mem_cons.mpr ⟨k_115, List.forall_mem_cons.mpr ⟨k_97, List.forall_mem_cons.mpr ⟨k_99, List.forall_mem_cons.mpr ⟨k_101, fun _ h => absurd h List.not_mem_nil⟩⟩⟩⟩⟩⟩⟩⟩⟩⟩
theorem in_N : ∀ w ∈ u_ws "VotedTriple$WordsIn" F_N 2, w ∈ tb := by
  show ∀ w ∈ [Cond.laysFinal "VotedTriple$WordsIn" "VotedTriple$WordsIn" "words" "[I", Cond.lays "VotedTriple$WordsIn" "VotedTriple$WordsIn" "count" "I"], w ∈ tb
  exact List.forall_mem_cons.mpr ⟨k_128, List.forall_mem_cons.mpr ⟨k_130, fun _ h => absurd h List.not_mem_nil⟩⟩
theorem in_O : ∀ w ∈ u_ws "VotedTriple$WordsOut" F_O 2, w ∈ tb := by
  show ∀ w ∈ [Cond.laysFinal "VotedTriple$WordsOut" "VotedTriple$WordsOut" "kept" "[I", Cond.lays "VotedTriple$WordsOut" "VotedTriple$WordsOut" "count" "I"], w ∈ tb
  exact List.forall_mem_cons.mpr ⟨k_61, List.forall_mem_cons.mpr ⟨k_63, fun _ h => absurd h List.not_mem_nil⟩⟩
theorem in_M : ∀ w ∈ u_ws "VotedTripleModel" F_M 37, w ∈ tb := by
  show ∀ w ∈ [Cond.lays "VotedTripleModel" "VotedTripleModel" "thrown" "I", Cond.lays "VotedTripleModel" "VotedTripleModel" "size" "I", Cond.laysFinal "VotedTripleModel" "VotedTripleModel" "code" "[I", Cond.lays "VotedTripleModel" "VotedTripleModel" "started" "Z", Cond.lays "VotedTripleModel" "VotedTripleModel" "safe" "Z", Cond.lays "VotedTripleModel" "VotedTripleModel" "single" "Z", Cond.lays "VotedTripleModel" "VotedTripleModel" "steps" "I", Cond.lays "VotedTripleModel" "VotedTripleModel" "unlike" "I", Cond.laysFinal "VotedTripleModel" "VotedTripleModel" "register" "[I", Cond.laysFinal "VotedTripleModel" "VotedTripleModel" "cell" "[I", Cond.laysFinal "VotedTripleModel" "VotedTripleModel" "counter" "[I", Cond.laysFinal "VotedTripleModel" "VotedTripleModel" "state" "[I", Cond.laysFinal "VotedTripleModel" "VotedTripleModel" "mark" "[I", Cond.laysFinal "VotedTripleModel" "VotedTripleModel" "blame" "[I", Cond.laysFinal "VotedTripleModel" "VotedTripleModel" "frozen" "[Z", Cond.laysFinal "VotedTripleModel" "VotedTripleModel" "skips" "[Z", Cond.laysFinal "VotedTripleModel" "VotedTripleModel" "mended" "[I", Cond.laysFinal "VotedTripleModel" "VotedTripleModel" "namedTimes" "[I", Cond.laysFinal "VotedTripleModel" "VotedTripleModel" "wish" "[I", Cond.laysFinal "VotedTripleModel" "VotedTripleModel" "spoilt" "[Z", Cond.laysFinal "VotedTripleModel" "VotedTripleModel" "inTo" "[I", Cond.laysFinal "VotedTripleModel" "VotedTripleModel" "storeAt" "[I", Cond.laysFinal "VotedTripleModel" "VotedTripleModel" "storeWord" "[I", Cond.laysFinal "VotedTripleModel" "VotedTripleModel" "named" "[Z", Cond.lays "VotedTripleModel" "VotedTripleModel" "readSpoilt" "Z", Cond.lays "VotedTripleModel" "VotedTripleModel" "jump" "I", Cond.lays "VotedTripleModel" "VotedTripleModel" "came" "I", Cond.lays "VotedTripleModel" "VotedTripleModel" "used" "I", Cond.laysFinal "VotedTripleModel" "VotedTripleModel" "inputs" "[I", Cond.lays "VotedTripleModel" "VotedTripleModel" "went" "I", Cond.laysFinal "VotedTripleModel" "VotedTripleModel" "outputs" "[I", Cond.laysFinal "VotedTripleModel" "VotedTripleModel" "ownRegister" "[I", Cond.laysFinal "VotedTripleModel" "VotedTripleModel" "ownWord" "[I", Cond.lays "VotedTripleModel" "VotedTripleModel" "ownCounter" "I", Cond.lays "VotedTripleModel" "VotedTripleModel" "ownUsed" "I", Cond.lays "VotedTripleModel" "VotedTripleModel" "ownWent" "I", Cond.laysFinal "VotedTripleModel" "VotedTripleModel" "ownOutputs" "[I"], w ∈ tb
  exact List.forall_mem_cons.mpr ⟨k_760, List.forall_mem_cons.mpr ⟨k_762, List.forall_mem_cons.mpr ⟨k_764, List.forall_mem_cons.mpr ⟨k_766, List.forall_mem_cons.mpr ⟨k_768, List.forall_mem_cons.mpr ⟨k_770, List.forall_mem_cons.mpr ⟨k_772, List.forall_mem_cons.mpr ⟨k_774, List.forall_mem_cons.mpr ⟨k_776, List.forall_mem_cons.mpr ⟨k_778, List.forall_mem_cons.mpr ⟨k_780, List.forall_mem_cons.mpr ⟨k_782, List.forall_mem_cons.mpr ⟨k_784, List.forall_mem_cons.mpr ⟨k_786, List.forall_mem_cons.mpr ⟨k_788, List.forall_mem_cons.mpr ⟨k_790, List.forall_mem_cons.mpr ⟨k_792, List.forall_mem_cons.mpr ⟨k_794, List.forall_mem_cons.mpr ⟨k_796, List.forall_mem_cons.mpr ⟨k_798, List.forall_mem_cons.mpr ⟨k_800, List.forall_mem_cons.mpr ⟨k_802, List.forall_mem_cons.mpr ⟨k_804, List.forall_mem_cons.mpr ⟨k_806, List.forall_mem_cons.mpr ⟨k_808, List.forall_mem_cons.mpr ⟨k_810, List.forall_mem_cons.mpr ⟨k_812, List.forall_mem_cons.mpr ⟨k_814, List.forall_mem_cons.mpr ⟨k_816, List.forall_mem_cons.mpr ⟨k_818, List.forall_mem_cons.mpr ⟨k_820, List.forall_mem_cons.mpr ⟨k_822, List.forall_mem_cons.mpr ⟨k_824, List.forall_mem_cons.mpr ⟨k_826, List.forall_mem_cons.mpr ⟨k_828, List.forall_mem_cons.mpr ⟨k_830, List.forall_mem_cons.mpr ⟨k_832, fun _ h => absurd h List.not_mem_nil⟩⟩⟩⟩⟩⟩⟩⟩⟩⟩⟩⟩⟩⟩⟩⟩⟩⟩⟩⟩⟩⟩⟩⟩⟩⟩⟩⟩⟩⟩⟩⟩⟩⟩⟩⟩⟩
