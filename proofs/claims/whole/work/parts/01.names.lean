-- names and tables, printed by wip/whole/gen_names.py out of the rows of the Statement
abbrev gI : Type := MethodName × ByteArray × Nat × Option FieldType
def gWS : List Cond := lw_tbl.filter goodWord
theorem gWS_good : ∀ w ∈ gWS, (w.onTables && w.keeps) = true ∨ ∃ ty, w = .arrayClass ty := fun _ h => good_of_word (List.mem_filter.mp h).2
theorem gin {w : Cond} (i : Nat) (h : tables_1[i]? = some w) (hg : goodWord w = true) : w ∈ gWS := List.mem_filter.mpr ⟨List.mem_append_right _ (List.mem_of_getElem? h), hg⟩
theorem gis {w : Cond} (h : w ∈ k2_sels lw_privs) (hg : goodWord w = true) : w ∈ gWS := List.mem_filter.mpr ⟨List.mem_append_left _ h, hg⟩
def RCL : String := "RiddleMill$ClueList"
def TCL : u_T := fun k => match k with
  | 0 => ("RiddleMill$ClueList", "codes", "[I", true)
  | _ => ("RiddleMill$ClueList", "size", "I", false)
def YCL : Nat → FieldType := fun k => match k with
  | 0 => .array .int
  | _ => .int
def RMA : String := "RiddleMill$Maker"
def TMA : u_T := fun k => match k with
  | 0 => ("RiddleMill$Maker", "places", "I", true)
  | 1 => ("RiddleMill$Maker", "things", "I", true)
  | 2 => ("RiddleMill$Maker", "at", "[I", true)
  | 3 => ("RiddleMill$Maker", "possible", "[I", true)
  | 4 => ("RiddleMill$Maker", "possibleCount", "I", false)
  | 5 => ("RiddleMill$Maker", "drawn", "J", false)
  | _ => ("RiddleMill$Maker", "riddle", "LRiddleMill$ClueList;", true)
def YMA : Nat → FieldType := fun k => match k with
  | 0 => .int
  | 1 => .int
  | 2 => .array .int
  | 3 => .array .int
  | 4 => .int
  | 5 => .long
  | _ => .object "RiddleMill$ClueList"
def RPR : String := "RiddleMill$Proof"
def TPR : u_T := fun k => match k with
  | 0 => ("RiddleMill$Proof", "places", "I", true)
  | 1 => ("RiddleMill$Proof", "things", "I", true)
  | 2 => ("RiddleMill$Proof", "grid", "[I", true)
  | 3 => ("RiddleMill$Proof", "stepRules", "[I", true)
  | 4 => ("RiddleMill$Proof", "stepClues", "[I", true)
  | 5 => ("RiddleMill$Proof", "stepThings", "[I", true)
  | 6 => ("RiddleMill$Proof", "stepPlaces", "[I", true)
  | 7 => ("RiddleMill$Proof", "length", "I", false)
  | 8 => ("RiddleMill$Proof", "reached", "I", false)
  | _ => ("RiddleMill$Proof", "broken", "Z", false)
def YPR : Nat → FieldType := fun k => match k with
  | 0 => .int
  | 1 => .int
  | 2 => .array .int
  | 3 => .array .int
  | 4 => .array .int
  | 5 => .array .int
  | 6 => .array .int
  | 7 => .int
  | 8 => .int
  | _ => .boolean
def RSP : String := "RiddleMill$Speech"
def TSP : u_T := fun k => match k with
  | 0 => ("RiddleMill$Speech", "names", "[J", true)
  | 1 => ("RiddleMill$Speech", "line", "[I", true)
  | 2 => ("RiddleMill$Speech", "lineLength", "I", false)
  | 3 => ("RiddleMill$Speech", "text", "[I", true)
  | 4 => ("RiddleMill$Speech", "textLength", "I", false)
  | 5 => ("RiddleMill$Speech", "faultPlace", "I", false)
  | 6 => ("RiddleMill$Speech", "parsed", "I", false)
  | 7 => ("RiddleMill$Speech", "slots", "[I", true)
  | 8 => ("RiddleMill$Speech", "wordStart", "I", false)
  | 9 => ("RiddleMill$Speech", "wordEnd", "I", false)
  | _ => ("RiddleMill$Speech", "lineEnd", "I", false)
def YSP : Nat → FieldType := fun k => match k with
  | 0 => .array .long
  | 1 => .array .int
  | 2 => .int
  | 3 => .array .int
  | 4 => .int
  | 5 => .int
  | 6 => .int
  | 7 => .array .int
  | 8 => .int
  | 9 => .int
  | _ => .int
def RWO : String := "RiddleMill$Worlds"
def TWO : u_T := fun k => match k with
  | 0 => ("RiddleMill$Worlds", "places", "I", true)
  | 1 => ("RiddleMill$Worlds", "things", "I", true)
  | 2 => ("RiddleMill$Worlds", "at", "[I", true)
  | 3 => ("RiddleMill$Worlds", "who", "[I", true)
  | 4 => ("RiddleMill$Worlds", "taken", "[I", true)
  | 5 => ("RiddleMill$Worlds", "queue", "[I", true)
  | 6 => ("RiddleMill$Worlds", "dues", "[I", true)
  | 7 => ("RiddleMill$Worlds", "starts", "[I", true)
  | 8 => ("RiddleMill$Worlds", "limit", "I", false)
  | 9 => ("RiddleMill$Worlds", "mostPlacings", "I", false)
  | 10 => ("RiddleMill$Worlds", "watched", "I", false)
  | 11 => ("RiddleMill$Worlds", "counted", "I", false)
  | 12 => ("RiddleMill$Worlds", "placings", "I", false)
  | 13 => ("RiddleMill$Worlds", "seen", "I", false)
  | _ => ("RiddleMill$Worlds", "enough", "Z", false)
def YWO : Nat → FieldType := fun k => match k with
  | 0 => .int
  | 1 => .int
  | 2 => .array .int
  | 3 => .array .int
  | 4 => .array .int
  | 5 => .array .int
  | 6 => .array .int
  | 7 => .array .int
  | 8 => .int
  | 9 => .int
  | 10 => .int
  | 11 => .int
  | 12 => .int
  | 13 => .int
  | _ => .boolean
def RRM : String := "RiddleMill"
def TRM : u_T := fun k => match k with
  | 0 => ("RiddleMill", "places", "I", true)
  | 1 => ("RiddleMill", "sorts", "I", true)
  | 2 => ("RiddleMill", "clues", "LRiddleMill$ClueList;", true)
  | 3 => ("RiddleMill", "worlds", "LRiddleMill$Worlds;", true)
  | 4 => ("RiddleMill", "proof", "LRiddleMill$Proof;", true)
  | 5 => ("RiddleMill", "trial", "LRiddleMill$Proof;", true)
  | 6 => ("RiddleMill", "maker", "LRiddleMill$Maker;", true)
  | _ => ("RiddleMill", "speech", "LRiddleMill$Speech;", true)
def YRM : Nat → FieldType := fun k => match k with
  | 0 => .int
  | 1 => .int
  | 2 => .object "RiddleMill$ClueList"
  | 3 => .object "RiddleMill$Worlds"
  | 4 => .object "RiddleMill$Proof"
  | 5 => .object "RiddleMill$Proof"
  | 6 => .object "RiddleMill$Maker"
  | _ => .object "RiddleMill$Speech"
def RRF : String := "RiddleMillModel"
def TRF : u_T := fun k => match k with
  | 0 => ("RiddleMillModel", "words", "[J", true)
  | 1 => ("RiddleMillModel", "thrown", "I", false)
  | 2 => ("RiddleMillModel", "n", "I", true)
  | 3 => ("RiddleMillModel", "sorts", "I", true)
  | 4 => ("RiddleMillModel", "orders", "I", false)
  | 5 => ("RiddleMillModel", "order", "[I", true)
  | 6 => ("RiddleMillModel", "clues", "I", false)
  | 7 => ("RiddleMillModel", "kept", "I", false)
  | 8 => ("RiddleMillModel", "clue", "[I", true)
  | 9 => ("RiddleMillModel", "keptClue", "[I", true)
  | 10 => ("RiddleMillModel", "place", "[I", true)
  | 11 => ("RiddleMillModel", "steps", "I", false)
  | 12 => ("RiddleMillModel", "provedSteps", "I", false)
  | 13 => ("RiddleMillModel", "step", "[I", true)
  | 14 => ("RiddleMillModel", "proved", "[I", true)
  | 15 => ("RiddleMillModel", "grid", "[I", true)
  | 16 => ("RiddleMillModel", "provedGrid", "[I", true)
  | 17 => ("RiddleMillModel", "names", "[J", true)
  | 18 => ("RiddleMillModel", "shown", "[B", true)
  | 19 => ("RiddleMillModel", "line", "[B", true)
  | 20 => ("RiddleMillModel", "shownSize", "I", false)
  | 21 => ("RiddleMillModel", "lineSize", "I", false)
  | 22 => ("RiddleMillModel", "fault", "I", false)
  | 23 => ("RiddleMillModel", "at", "I", false)
  | 24 => ("RiddleMillModel", "pool", "I", false)
  | 25 => ("RiddleMillModel", "possible", "[I", true)
  | 26 => ("RiddleMillModel", "seed", "J", false)
  | 27 => ("RiddleMillModel", "readKind", "I", false)
  | 28 => ("RiddleMillModel", "readX", "I", false)
  | 29 => ("RiddleMillModel", "readY", "I", false)
  | 30 => ("RiddleMillModel", "readZ", "I", false)
  | 31 => ("RiddleMillModel", "readD", "I", false)
  | _ => ("RiddleMillModel", "readSpeaker", "I", false)
def YRF : Nat → FieldType := fun k => match k with
  | 0 => .array .long
  | 1 => .int
  | 2 => .int
  | 3 => .int
  | 4 => .int
  | 5 => .array .int
  | 6 => .int
  | 7 => .int
  | 8 => .array .int
  | 9 => .array .int
  | 10 => .array .int
  | 11 => .int
  | 12 => .int
  | 13 => .array .int
  | 14 => .array .int
  | 15 => .array .int
  | 16 => .array .int
  | 17 => .array .long
  | 18 => .array .byte
  | 19 => .array .byte
  | 20 => .int
  | 21 => .int
  | 22 => .int
  | 23 => .int
  | 24 => .int
  | 25 => .array .int
  | 26 => .long
  | 27 => .int
  | 28 => .int
  | 29 => .int
  | 30 => .int
  | 31 => .int
  | _ => .int
def gCL : List vw_C := [(RCL, TCL, 2), (RMA, TMA, 7), (RPR, TPR, 10), (RSP, TSP, 11), (RWO, TWO, 15), (RRM, TRM, 8), (RRF, TRF, 33)]
def gTY (ci : Nat) : Nat → FieldType := match ci with
  | 0 => YCL
  | 1 => YMA
  | 2 => YPR
  | 3 => YSP
  | 4 => YWO
  | 5 => YRM
  | _ => YRF
def mRM_init : gI := (⟨"RiddleMill", "<init>", "(II)V"⟩, prog_1_method_1_code, 3, none)
def mJO_init : gI := (⟨"java/lang/Object", "<init>", "()V"⟩, object_method_1_code, 1, none)
def mJM_min : gI := (⟨"java/lang/Math", "min", "(II)I"⟩, prog_15_method_69_code, 2, (some (Jvm.ClassFile.FieldType.int)))
def mJM_max : gI := (⟨"java/lang/Math", "max", "(II)I"⟩, prog_15_method_65_code, 2, (some (Jvm.ClassFile.FieldType.int)))
def mCL_init : gI := (⟨"RiddleMill$ClueList", "<init>", "()V"⟩, prog_2_method_1_code, 1, none)
def mWO_init : gI := (⟨"RiddleMill$Worlds", "<init>", "(II)V"⟩, prog_7_method_1_code, 3, none)
def mPR_init : gI := (⟨"RiddleMill$Proof", "<init>", "(II)V"⟩, prog_5_method_1_code, 3, none)
def mMA_init : gI := (⟨"RiddleMill$Maker", "<init>", "(II)V"⟩, prog_4_method_1_code, 3, none)
def mSP_init : gI := (⟨"RiddleMill$Speech", "<init>", "()V"⟩, prog_6_method_1_code, 1, none)
def mRM_clueAt : gI := (⟨"RiddleMill", "clueAt", "(II)I"⟩, prog_1_method_4_code, 4, (some (Jvm.ClassFile.FieldType.int)))
def mCL_has : gI := (⟨"RiddleMill$ClueList", "has", "(I)Z"⟩, prog_2_method_2_code, 2, (some (Jvm.ClassFile.FieldType.boolean)))
def mCO_kind : gI := (⟨"RiddleMill$Code", "kind", "(I)I"⟩, prog_3_method_3_code, 1, (some (Jvm.ClassFile.FieldType.int)))
def mCO_x : gI := (⟨"RiddleMill$Code", "x", "(I)I"⟩, prog_3_method_4_code, 1, (some (Jvm.ClassFile.FieldType.int)))
def mCO_y : gI := (⟨"RiddleMill$Code", "y", "(I)I"⟩, prog_3_method_5_code, 1, (some (Jvm.ClassFile.FieldType.int)))
def mCO_z : gI := (⟨"RiddleMill$Code", "z", "(I)I"⟩, prog_3_method_6_code, 1, (some (Jvm.ClassFile.FieldType.int)))
def mCO_d : gI := (⟨"RiddleMill$Code", "d", "(I)I"⟩, prog_3_method_7_code, 1, (some (Jvm.ClassFile.FieldType.int)))
def mCO_speaker : gI := (⟨"RiddleMill$Code", "speaker", "(I)I"⟩, prog_3_method_8_code, 1, (some (Jvm.ClassFile.FieldType.int)))
def mRM_answer : gI := (⟨"RiddleMill", "answer", "(I)I"⟩, prog_1_method_6_code, 3, (some (Jvm.ClassFile.FieldType.int)))
def mRM_isThing : gI := (⟨"RiddleMill", "isThing", "(I)Z"⟩, prog_1_method_21_code, 2, (some (Jvm.ClassFile.FieldType.boolean)))
def mWO_alike : gI := (⟨"RiddleMill$Worlds", "alike", "(LRiddleMill$ClueList;I)I"⟩, prog_7_method_4_code, 3, (some (Jvm.ClassFile.FieldType.int)))
def mWO_prepare : gI := (⟨"RiddleMill$Worlds", "prepare", "(LRiddleMill$ClueList;I)V"⟩, prog_7_method_5_code, 6, none)
def mWO_dueAt : gI := (⟨"RiddleMill$Worlds", "dueAt", "(I)I"⟩, prog_7_method_6_code, 3, (some (Jvm.ClassFile.FieldType.int)))
def mWO_placeFrom : gI := (⟨"RiddleMill$Worlds", "placeFrom", "(II)V"⟩, prog_7_method_7_code, 7, none)
def mWO_take : gI := (⟨"RiddleMill$Worlds", "take", "(I)V"⟩, prog_7_method_9_code, 2, none)
def mJI_bitCount : gI := (⟨"java/lang/Integer", "bitCount", "(I)I"⟩, prog_14_method_49_code, 1, (some (Jvm.ClassFile.FieldType.int)))
def mWO_isMany : gI := (⟨"RiddleMill$Worlds", "isMany", "(I)Z"⟩, prog_7_method_10_code, 1, (some (Jvm.ClassFile.FieldType.boolean)))
def mWO_heard : gI := (⟨"RiddleMill$Worlds", "heard", "(II)I"⟩, prog_7_method_8_code, 12, (some (Jvm.ClassFile.FieldType.int)))
def mCO_isSo : gI := (⟨"RiddleMill$Code", "isSo", "(IIIII)Z"⟩, prog_3_method_15_code, 5, (some (Jvm.ClassFile.FieldType.boolean)))
def mRM_prove : gI := (⟨"RiddleMill", "prove", "()I"⟩, prog_1_method_8_code, 1, (some (Jvm.ClassFile.FieldType.int)))
def mPR_run : gI := (⟨"RiddleMill$Proof", "run", "(LRiddleMill$ClueList;)V"⟩, prog_5_method_2_code, 4, none)
def mCO_thingAt : gI := (⟨"RiddleMill$Code", "thingAt", "(II)I"⟩, prog_3_method_13_code, 2, (some (Jvm.ClassFile.FieldType.int)))
def mPR_bySort : gI := (⟨"RiddleMill$Proof", "bySort", "(I)Z"⟩, prog_5_method_4_code, 5, (some (Jvm.ClassFile.FieldType.boolean)))
def mPR_barred : gI := (⟨"RiddleMill$Proof", "barred", "(II)I"⟩, prog_5_method_5_code, 3, (some (Jvm.ClassFile.FieldType.int)))
def mPR_barredByLone : gI := (⟨"RiddleMill$Proof", "barredByLone", "(I)I"⟩, prog_5_method_6_code, 5, (some (Jvm.ClassFile.FieldType.int)))
def mPR_barredByOwn : gI := (⟨"RiddleMill$Proof", "barredByOwn", "(I)I"⟩, prog_5_method_7_code, 5, (some (Jvm.ClassFile.FieldType.int)))
def mPR_barredByPairs : gI := (⟨"RiddleMill$Proof", "barredByPairs", "(I)I"⟩, prog_5_method_8_code, 6, (some (Jvm.ClassFile.FieldType.int)))
def mPR_take : gI := (⟨"RiddleMill$Proof", "take", "(IIII)V"⟩, prog_5_method_13_code, 5, none)
def mPR_byClues : gI := (⟨"RiddleMill$Proof", "byClues", "(ILRiddleMill$ClueList;)Z"⟩, prog_5_method_9_code, 6, (some (Jvm.ClassFile.FieldType.boolean)))
def mCO_ruleOf : gI := (⟨"RiddleMill$Code", "ruleOf", "(I)I"⟩, prog_3_method_12_code, 1, (some (Jvm.ClassFile.FieldType.int)))
def mCO_thingsOf : gI := (⟨"RiddleMill$Code", "thingsOf", "(I)I"⟩, prog_3_method_9_code, 1, (some (Jvm.ClassFile.FieldType.int)))
def mPR_byClue : gI := (⟨"RiddleMill$Proof", "byClue", "(III)Z"⟩, prog_5_method_10_code, 7, (some (Jvm.ClassFile.FieldType.boolean)))
def mCO_thingAfter : gI := (⟨"RiddleMill$Code", "thingAfter", "(II)I"⟩, prog_3_method_14_code, 6, (some (Jvm.ClassFile.FieldType.int)))
def mPR_canBeSo : gI := (⟨"RiddleMill$Proof", "canBeSo", "(III)Z"⟩, prog_5_method_11_code, 18, (some (Jvm.ClassFile.FieldType.boolean)))
def mPR_bitsFor : gI := (⟨"RiddleMill$Proof", "bitsFor", "(III)I"⟩, prog_5_method_12_code, 4, (some (Jvm.ClassFile.FieldType.int)))
def mPR_isSolved : gI := (⟨"RiddleMill$Proof", "isSolved", "()Z"⟩, prog_5_method_3_code, 2, (some (Jvm.ClassFile.FieldType.boolean)))
def mRM_step : gI := (⟨"RiddleMill", "step", "(II)I"⟩, prog_1_method_9_code, 3, (some (Jvm.ClassFile.FieldType.int)))
def mRM_may : gI := (⟨"RiddleMill", "may", "(I)I"⟩, prog_1_method_10_code, 2, (some (Jvm.ClassFile.FieldType.int)))
def mRM_rating : gI := (⟨"RiddleMill", "rating", "()I"⟩, prog_1_method_11_code, 1, (some (Jvm.ClassFile.FieldType.int)))
def mRM_name : gI := (⟨"RiddleMill", "name", "(IJ)Z"⟩, prog_1_method_13_code, 4, (some (Jvm.ClassFile.FieldType.boolean)))
def mSP_giveName : gI := (⟨"RiddleMill$Speech", "giveName", "(IJ)Z"⟩, prog_6_method_2_code, 7, (some (Jvm.ClassFile.FieldType.boolean)))
def mSP_wordOf : gI := (⟨"RiddleMill$Speech", "wordOf", "(J)J"⟩, prog_6_method_3_code, 7, (some (Jvm.ClassFile.FieldType.long)))
def mSP_isWord : gI := (⟨"RiddleMill$Speech", "isWord", "(J)Z"⟩, prog_6_method_4_code, 3, (some (Jvm.ClassFile.FieldType.boolean)))
def mSP_thingNamed : gI := (⟨"RiddleMill$Speech", "thingNamed", "(J)I"⟩, prog_6_method_5_code, 4, (some (Jvm.ClassFile.FieldType.int)))
def mRM_print : gI := (⟨"RiddleMill", "print", "(I)I"⟩, prog_1_method_14_code, 2, (some (Jvm.ClassFile.FieldType.int)))
def mSP_show : gI := (⟨"RiddleMill$Speech", "show", "(I)I"⟩, prog_6_method_6_code, 5, (some (Jvm.ClassFile.FieldType.int)))
def mSP_lacksName : gI := (⟨"RiddleMill$Speech", "lacksName", "(I)Z"⟩, prog_6_method_7_code, 2, (some (Jvm.ClassFile.FieldType.boolean)))
def mSP_put : gI := (⟨"RiddleMill$Speech", "put", "(I)V"⟩, prog_6_method_9_code, 2, none)
def mSP_putWord : gI := (⟨"RiddleMill$Speech", "putWord", "(J)V"⟩, prog_6_method_8_code, 5, none)
def mRM_shown : gI := (⟨"RiddleMill", "shown", "(I)I"⟩, prog_1_method_15_code, 2, (some (Jvm.ClassFile.FieldType.int)))
def mRM_type : gI := (⟨"RiddleMill", "type", "(J)I"⟩, prog_1_method_16_code, 3, (some (Jvm.ClassFile.FieldType.int)))
def mSP_append : gI := (⟨"RiddleMill$Speech", "append", "(J)I"⟩, prog_6_method_10_code, 6, (some (Jvm.ClassFile.FieldType.int)))
def mRM_fault : gI := (⟨"RiddleMill", "fault", "()I"⟩, prog_1_method_18_code, 1, (some (Jvm.ClassFile.FieldType.int)))
def mRM_about : gI := (⟨"RiddleMill", "about", "(I)I"⟩, prog_1_method_19_code, 2, (some (Jvm.ClassFile.FieldType.int)))
def mLW_cell : gI := (⟨"RiddleMillLaw", "cell", "([II)I"⟩, method_2_code, 2, (some (Jvm.ClassFile.FieldType.int)))
-- LW_clue: a method with handlers or a lock
def mRM_clue : gI := (⟨"RiddleMill", "clue", "(IIIIII)I"⟩, prog_1_method_2_code, 7, (some (Jvm.ClassFile.FieldType.int)))
def mRM_isAsTold : gI := (⟨"RiddleMill", "isAsTold", "(IIIIII)Z"⟩, prog_1_method_22_code, 8, (some (Jvm.ClassFile.FieldType.boolean)))
def mCO_leastD : gI := (⟨"RiddleMill$Code", "leastD", "(I)I"⟩, prog_3_method_10_code, 1, (some (Jvm.ClassFile.FieldType.int)))
def mCO_greatestD : gI := (⟨"RiddleMill$Code", "greatestD", "(III)I"⟩, prog_3_method_11_code, 3, (some (Jvm.ClassFile.FieldType.int)))
def mJT_init : gI := (⟨"java/lang/Throwable", "<init>", "()V"⟩, prog_19_method_1_code, 1, none)
-- JT_fillInStackTrace: a method with handlers or a lock
def mJA_init : gI := (⟨"java/lang/IllegalArgumentException", "<init>", "(Ljava/lang/String;)V"⟩, prog_11_method_2_code, 2, none)
def mJR_init : gI := (⟨"java/lang/RuntimeException", "<init>", "(Ljava/lang/String;)V"⟩, prog_16_method_2_code, 2, none)
def mJE_init : gI := (⟨"java/lang/Exception", "<init>", "(Ljava/lang/String;)V"⟩, prog_10_method_2_code, 2, none)
def mJT_init2 : gI := (⟨"java/lang/Throwable", "<init>", "(Ljava/lang/String;)V"⟩, prog_19_method_2_code, 2, none)
def mCO_of : gI := (⟨"RiddleMill$Code", "of", "(IIIIII)I"⟩, prog_3_method_2_code, 6, (some (Jvm.ClassFile.FieldType.int)))
def mRM_added : gI := (⟨"RiddleMill", "added", "(I)I"⟩, prog_1_method_20_code, 2, (some (Jvm.ClassFile.FieldType.int)))
def mCL_contains : gI := (⟨"RiddleMill$ClueList", "contains", "(I)Z"⟩, prog_2_method_3_code, 3, (some (Jvm.ClassFile.FieldType.boolean)))
def mJX_init : gI := (⟨"java/lang/IllegalStateException", "<init>", "(Ljava/lang/String;)V"⟩, prog_12_method_2_code, 2, none)
def mCL_add : gI := (⟨"RiddleMill$ClueList", "add", "(I)V"⟩, prog_2_method_4_code, 2, none)
-- LW_drop: a method with handlers or a lock
def mRM_drop : gI := (⟨"RiddleMill", "drop", "(I)V"⟩, prog_1_method_3_code, 2, none)
def mJB_init : gI := (⟨"java/lang/IndexOutOfBoundsException", "<init>", "(Ljava/lang/String;)V"⟩, prog_13_method_2_code, 2, none)
def mCL_removeAt : gI := (⟨"RiddleMill$ClueList", "removeAt", "(I)V"⟩, prog_2_method_5_code, 3, none)
-- LW_count: a method with handlers or a lock
def mRM_count : gI := (⟨"RiddleMill", "count", "(I)I"⟩, prog_1_method_5_code, 2, (some (Jvm.ClassFile.FieldType.int)))
def mWO_number : gI := (⟨"RiddleMill$Worlds", "number", "(LRiddleMill$ClueList;I)I"⟩, prog_7_method_2_code, 3, (some (Jvm.ClassFile.FieldType.int)))
-- LW_needed: a method with handlers or a lock
def mRM_needed : gI := (⟨"RiddleMill", "needed", "(I)Z"⟩, prog_1_method_7_code, 2, (some (Jvm.ClassFile.FieldType.boolean)))
def mWO_differ : gI := (⟨"RiddleMill$Worlds", "differ", "(LRiddleMill$ClueList;I)Z"⟩, prog_7_method_3_code, 3, (some (Jvm.ClassFile.FieldType.boolean)))
-- LW_make: a method with handlers or a lock
def mRM_make : gI := (⟨"RiddleMill", "make", "(II)I"⟩, prog_1_method_12_code, 4, (some (Jvm.ClassFile.FieldType.int)))
def mMA_find : gI := (⟨"RiddleMill$Maker", "find", "(IILRiddleMill$Worlds;LRiddleMill$Proof;)I"⟩, prog_4_method_2_code, 7, (some (Jvm.ClassFile.FieldType.int)))
def mMA_drawWorld : gI := (⟨"RiddleMill$Maker", "drawWorld", "()V"⟩, prog_4_method_4_code, 5, none)
def mMA_draw : gI := (⟨"RiddleMill$Maker", "draw", "(I)I"⟩, prog_4_method_3_code, 2, (some (Jvm.ClassFile.FieldType.int)))
def mMA_gather : gI := (⟨"RiddleMill$Maker", "gather", "()V"⟩, prog_4_method_5_code, 3, none)
def mMA_gatherFor : gI := (⟨"RiddleMill$Maker", "gatherFor", "(II)V"⟩, prog_4_method_6_code, 7, none)
def mMA_consider : gI := (⟨"RiddleMill$Maker", "consider", "(IIII)V"⟩, prog_4_method_8_code, 6, none)
def mMA_isPair : gI := (⟨"RiddleMill$Maker", "isPair", "(III)Z"⟩, prog_4_method_7_code, 3, (some (Jvm.ClassFile.FieldType.boolean)))
def mMA_mix : gI := (⟨"RiddleMill$Maker", "mix", "()V"⟩, prog_4_method_9_code, 4, none)
def mMA_thinOut : gI := (⟨"RiddleMill$Maker", "thinOut", "(LRiddleMill$Worlds;)V"⟩, prog_4_method_10_code, 3, none)
def mCL_takeAll : gI := (⟨"RiddleMill$ClueList", "takeAll", "(LRiddleMill$ClueList;)V"⟩, prog_2_method_6_code, 2, none)
-- LW_read: a method with handlers or a lock
def mRM_read : gI := (⟨"RiddleMill", "read", "()I"⟩, prog_1_method_17_code, 2, (some (Jvm.ClassFile.FieldType.int)))
def mSP_parse : gI := (⟨"RiddleMill$Speech", "parse", "()Z"⟩, prog_6_method_11_code, 4, (some (Jvm.ClassFile.FieldType.boolean)))
def mSP_readSpeaker : gI := (⟨"RiddleMill$Speech", "readSpeaker", "()I"⟩, prog_6_method_12_code, 3, (some (Jvm.ClassFile.FieldType.int)))
def mSP_readWord : gI := (⟨"RiddleMill$Speech", "readWord", "()J"⟩, prog_6_method_13_code, 4, (some (Jvm.ClassFile.FieldType.long)))
def mSP_isEnded : gI := (⟨"RiddleMill$Speech", "isEnded", "(III)Z"⟩, prog_6_method_16_code, 5, (some (Jvm.ClassFile.FieldType.boolean)))
def mSP_goingOn : gI := (⟨"RiddleMill$Speech", "goingOn", "(IIJ)I"⟩, prog_6_method_14_code, 10, (some (Jvm.ClassFile.FieldType.int)))
def mSP_meaning : gI := (⟨"RiddleMill$Speech", "meaning", "(JJ)I"⟩, prog_6_method_15_code, 5, (some (Jvm.ClassFile.FieldType.int)))
def mRF_init : gI := (⟨"RiddleMillModel", "<init>", "(II)V"⟩, prog_9_method_1_code, 9, none)
def mRF_thrown : gI := (⟨"RiddleMillModel", "thrown", "()I"⟩, prog_9_method_2_code, 1, (some (Jvm.ClassFile.FieldType.int)))
def mRF_clue : gI := (⟨"RiddleMillModel", "clue", "(IIIIII)I"⟩, prog_9_method_8_code, 7, (some (Jvm.ClassFile.FieldType.int)))
def mRF_isClue : gI := (⟨"RiddleMillModel", "isClue", "(IIIIII)Z"⟩, prog_9_method_5_code, 9, (some (Jvm.ClassFile.FieldType.boolean)))
def mRF_isThing : gI := (⟨"RiddleMillModel", "isThing", "(I)Z"⟩, prog_9_method_3_code, 2, (some (Jvm.ClassFile.FieldType.boolean)))
def mRF_isThere : gI := (⟨"RiddleMillModel", "isThere", "(IIIIII)Z"⟩, prog_9_method_7_code, 8, (some (Jvm.ClassFile.FieldType.boolean)))
def mRF_put : gI := (⟨"RiddleMillModel", "put", "(IIIIIII)V"⟩, prog_9_method_6_code, 8, none)
def mRF_drop : gI := (⟨"RiddleMillModel", "drop", "(I)V"⟩, prog_9_method_10_code, 2, none)
def mRF_remove : gI := (⟨"RiddleMillModel", "remove", "(I)V"⟩, prog_9_method_9_code, 3, none)
def mRF_clueAt : gI := (⟨"RiddleMillModel", "clueAt", "(II)I"⟩, prog_9_method_11_code, 3, (some (Jvm.ClassFile.FieldType.int)))
def mRF_count : gI := (⟨"RiddleMillModel", "count", "(I)I"⟩, prog_9_method_19_code, 5, (some (Jvm.ClassFile.FieldType.int)))
def mRF_worlds : gI := (⟨"RiddleMillModel", "worlds", "()I"⟩, prog_9_method_15_code, 3, (some (Jvm.ClassFile.FieldType.int)))
def mRF_lay : gI := (⟨"RiddleMillModel", "lay", "(I)V"⟩, prog_9_method_16_code, 5, none)
def mRF_speakers : gI := (⟨"RiddleMillModel", "speakers", "(I)I"⟩, prog_9_method_17_code, 6, (some (Jvm.ClassFile.FieldType.int)))
def mRF_isSo : gI := (⟨"RiddleMillModel", "isSo", "(I)Z"⟩, prog_9_method_14_code, 2, (some (Jvm.ClassFile.FieldType.boolean)))
def mRF_index : gI := (⟨"RiddleMillModel", "index", "(I)I"⟩, prog_9_method_4_code, 1, (some (Jvm.ClassFile.FieldType.int)))
def mRF_says : gI := (⟨"RiddleMillModel", "says", "(IIIII)Z"⟩, prog_9_method_12_code, 6, (some (Jvm.ClassFile.FieldType.boolean)))
def mRF_standing : gI := (⟨"RiddleMillModel", "standing", "(II)I"⟩, prog_9_method_13_code, 4, (some (Jvm.ClassFile.FieldType.int)))
def mRF_many : gI := (⟨"RiddleMillModel", "many", "(I)I"⟩, prog_9_method_18_code, 1, (some (Jvm.ClassFile.FieldType.int)))
def mRF_answer : gI := (⟨"RiddleMillModel", "answer", "(I)I"⟩, prog_9_method_20_code, 7, (some (Jvm.ClassFile.FieldType.int)))
def mRF_needed : gI := (⟨"RiddleMillModel", "needed", "(I)Z"⟩, prog_9_method_22_code, 2, (some (Jvm.ClassFile.FieldType.boolean)))
def mRF_differ : gI := (⟨"RiddleMillModel", "differ", "(I)Z"⟩, prog_9_method_21_code, 4, (some (Jvm.ClassFile.FieldType.boolean)))
def mRF_prove : gI := (⟨"RiddleMillModel", "prove", "()I"⟩, prog_9_method_37_code, 2, (some (Jvm.ClassFile.FieldType.int)))
def mRF_work : gI := (⟨"RiddleMillModel", "work", "()V"⟩, prog_9_method_36_code, 2, none)
def mRF_isStuck : gI := (⟨"RiddleMillModel", "isStuck", "()Z"⟩, prog_9_method_34_code, 2, (some (Jvm.ClassFile.FieldType.boolean)))
def mRF_stepped : gI := (⟨"RiddleMillModel", "stepped", "()Z"⟩, prog_9_method_35_code, 4, (some (Jvm.ClassFile.FieldType.boolean)))
def mRF_isOf : gI := (⟨"RiddleMillModel", "isOf", "(II)Z"⟩, prog_9_method_30_code, 4, (some (Jvm.ClassFile.FieldType.boolean)))
def mRF_stepBy : gI := (⟨"RiddleMillModel", "stepBy", "(II)Z"⟩, prog_9_method_33_code, 5, (some (Jvm.ClassFile.FieldType.boolean)))
def mRF_takes : gI := (⟨"RiddleMillModel", "takes", "(IIII)Z"⟩, prog_9_method_32_code, 5, (some (Jvm.ClassFile.FieldType.boolean)))
def mRF_byOther : gI := (⟨"RiddleMillModel", "byOther", "(II)Z"⟩, prog_9_method_24_code, 4, (some (Jvm.ClassFile.FieldType.boolean)))
def mRF_byOnly : gI := (⟨"RiddleMillModel", "byOnly", "(II)Z"⟩, prog_9_method_25_code, 6, (some (Jvm.ClassFile.FieldType.boolean)))
def mRF_byPair : gI := (⟨"RiddleMillModel", "byPair", "(II)Z"⟩, prog_9_method_26_code, 5, (some (Jvm.ClassFile.FieldType.boolean)))
def mRF_size : gI := (⟨"RiddleMillModel", "size", "(I)I"⟩, prog_9_method_23_code, 3, (some (Jvm.ClassFile.FieldType.int)))
def mRF_isIn : gI := (⟨"RiddleMillModel", "isIn", "(II)Z"⟩, prog_9_method_31_code, 5, (some (Jvm.ClassFile.FieldType.boolean)))
def mRF_canBe : gI := (⟨"RiddleMillModel", "canBe", "(III)Z"⟩, prog_9_method_29_code, 12, (some (Jvm.ClassFile.FieldType.boolean)))
def mRF_mayBe : gI := (⟨"RiddleMillModel", "mayBe", "(IIII)Z"⟩, prog_9_method_27_code, 5, (some (Jvm.ClassFile.FieldType.boolean)))
def mRF_clash : gI := (⟨"RiddleMillModel", "clash", "(IIII)Z"⟩, prog_9_method_28_code, 4, (some (Jvm.ClassFile.FieldType.boolean)))
def mRF_step : gI := (⟨"RiddleMillModel", "step", "(II)I"⟩, prog_9_method_38_code, 3, (some (Jvm.ClassFile.FieldType.int)))
def mRF_may : gI := (⟨"RiddleMillModel", "may", "(I)I"⟩, prog_9_method_39_code, 2, (some (Jvm.ClassFile.FieldType.int)))
def mRF_rating : gI := (⟨"RiddleMillModel", "rating", "()I"⟩, prog_9_method_41_code, 1, (some (Jvm.ClassFile.FieldType.int)))
def mRF_rated : gI := (⟨"RiddleMillModel", "rated", "()I"⟩, prog_9_method_40_code, 3, (some (Jvm.ClassFile.FieldType.int)))
def mRF_make : gI := (⟨"RiddleMillModel", "make", "(II)I"⟩, prog_9_method_48_code, 4, (some (Jvm.ClassFile.FieldType.int)))
def mRF_once : gI := (⟨"RiddleMillModel", "once", "()V"⟩, prog_9_method_47_code, 5, none)
def mRF_draw : gI := (⟨"RiddleMillModel", "draw", "(I)I"⟩, prog_9_method_42_code, 2, (some (Jvm.ClassFile.FieldType.int)))
def mRF_swapPlaces : gI := (⟨"RiddleMillModel", "swapPlaces", "(II)V"⟩, prog_9_method_46_code, 4, none)
def mRF_gather : gI := (⟨"RiddleMillModel", "gather", "()V"⟩, prog_9_method_45_code, 5, none)
def mRF_gatherTwo : gI := (⟨"RiddleMillModel", "gatherTwo", "(II)V"⟩, prog_9_method_44_code, 5, none)
def mRF_possibly : gI := (⟨"RiddleMillModel", "possibly", "(IIIII)V"⟩, prog_9_method_43_code, 7, none)
def mRF_name : gI := (⟨"RiddleMillModel", "name", "(IJ)Z"⟩, prog_9_method_50_code, 11, (some (Jvm.ClassFile.FieldType.boolean)))
def mRF_letters : gI := (⟨"RiddleMillModel", "letters", "(J)J"⟩, prog_9_method_49_code, 5, (some (Jvm.ClassFile.FieldType.long)))
def mRF_print : gI := (⟨"RiddleMillModel", "print", "(I)I"⟩, prog_9_method_54_code, 6, (some (Jvm.ClassFile.FieldType.int)))
def mRF_isNamed : gI := (⟨"RiddleMillModel", "isNamed", "(I)Z"⟩, prog_9_method_53_code, 2, (some (Jvm.ClassFile.FieldType.boolean)))
def mRF_show : gI := (⟨"RiddleMillModel", "show", "(J)V"⟩, prog_9_method_51_code, 4, none)
def mRF_showThing : gI := (⟨"RiddleMillModel", "showThing", "(I)V"⟩, prog_9_method_52_code, 2, none)
def mRF_shown : gI := (⟨"RiddleMillModel", "shown", "(I)I"⟩, prog_9_method_55_code, 2, (some (Jvm.ClassFile.FieldType.int)))
def mRF_type : gI := (⟨"RiddleMillModel", "type", "(J)I"⟩, prog_9_method_56_code, 7, (some (Jvm.ClassFile.FieldType.int)))
def mRF_read : gI := (⟨"RiddleMillModel", "read", "()I"⟩, prog_9_method_67_code, 2, (some (Jvm.ClassFile.FieldType.int)))
def mRF_is : gI := (⟨"RiddleMillModel", "is", "(J)Z"⟩, prog_9_method_62_code, 3, (some (Jvm.ClassFile.FieldType.boolean)))
def mRF_isAtEnd : gI := (⟨"RiddleMillModel", "isAtEnd", "()Z"⟩, prog_9_method_59_code, 1, (some (Jvm.ClassFile.FieldType.boolean)))
def mRF_word : gI := (⟨"RiddleMillModel", "word", "()J"⟩, prog_9_method_57_code, 5, (some (Jvm.ClassFile.FieldType.long)))
def mRF_digit : gI := (⟨"RiddleMillModel", "digit", "()I"⟩, prog_9_method_65_code, 2, (some (Jvm.ClassFile.FieldType.int)))
def mRF_isDigit : gI := (⟨"RiddleMillModel", "isDigit", "()Z"⟩, prog_9_method_64_code, 1, (some (Jvm.ClassFile.FieldType.boolean)))
def mRF_bad : gI := (⟨"RiddleMillModel", "bad", "()V"⟩, prog_9_method_60_code, 1, none)
def mRF_next : gI := (⟨"RiddleMillModel", "next", "()V"⟩, prog_9_method_58_code, 1, none)
def mRF_must : gI := (⟨"RiddleMillModel", "must", "(J)V"⟩, prog_9_method_61_code, 3, none)
def mRF_thing : gI := (⟨"RiddleMillModel", "thing", "()I"⟩, prog_9_method_63_code, 2, (some (Jvm.ClassFile.FieldType.int)))
def mRF_rest : gI := (⟨"RiddleMillModel", "rest", "()V"⟩, prog_9_method_66_code, 1, none)
def mRF_fault : gI := (⟨"RiddleMillModel", "fault", "()I"⟩, prog_9_method_68_code, 1, (some (Jvm.ClassFile.FieldType.int)))
def mRF_about : gI := (⟨"RiddleMillModel", "about", "(I)I"⟩, prog_9_method_69_code, 2, (some (Jvm.ClassFile.FieldType.int)))
set_option maxRecDepth 20000 in
theorem uw_CL : ∀ w ∈ u_ws RCL TCL 2, w ∈ gWS := by
  show ∀ w ∈ [u_lay RCL TCL 0, u_lay RCL TCL 1], w ∈ gWS
  exact List.forall_mem_cons.mpr ⟨gin 47 rfl rfl, List.forall_mem_cons.mpr ⟨gin 49 rfl rfl, fun _ h => absurd h List.not_mem_nil⟩⟩
theorem un_CL : ∀ a, a < 2 → ∀ b, b < 2 → a ≠ b → (TCL a).2.1 ≠ (TCL b).2.1 := by decide +kernel
theorem ut_CL : ∀ k, k < 2 → parseFieldDescriptor (TCL k).2.2.1 = some (YCL k) := by decide +kernel
set_option maxRecDepth 20000 in
theorem uw_MA : ∀ w ∈ u_ws RMA TMA 7, w ∈ gWS := by
  show ∀ w ∈ [u_lay RMA TMA 0, u_lay RMA TMA 1, u_lay RMA TMA 2, u_lay RMA TMA 3, u_lay RMA TMA 4, u_lay RMA TMA 5, u_lay RMA TMA 6], w ∈ gWS
  exact List.forall_mem_cons.mpr ⟨gin 166 rfl rfl, List.forall_mem_cons.mpr ⟨gin 168 rfl rfl, List.forall_mem_cons.mpr ⟨gin 170 rfl rfl, List.forall_mem_cons.mpr ⟨gin 172 rfl rfl, List.forall_mem_cons.mpr ⟨gin 174 rfl rfl, List.forall_mem_cons.mpr ⟨gin 176 rfl rfl, List.forall_mem_cons.mpr ⟨gin 178 rfl rfl, fun _ h => absurd h List.not_mem_nil⟩⟩⟩⟩⟩⟩⟩
theorem un_MA : ∀ a, a < 7 → ∀ b, b < 7 → a ≠ b → (TMA a).2.1 ≠ (TMA b).2.1 := by decide +kernel
theorem ut_MA : ∀ k, k < 7 → parseFieldDescriptor (TMA k).2.2.1 = some (YMA k) := by decide +kernel
set_option maxRecDepth 20000 in
theorem uw_PR : ∀ w ∈ u_ws RPR TPR 10, w ∈ gWS := by
  show ∀ w ∈ [u_lay RPR TPR 0, u_lay RPR TPR 1, u_lay RPR TPR 2, u_lay RPR TPR 3, u_lay RPR TPR 4, u_lay RPR TPR 5, u_lay RPR TPR 6, u_lay RPR TPR 7, u_lay RPR TPR 8, u_lay RPR TPR 9], w ∈ gWS
  exact List.forall_mem_cons.mpr ⟨gin 129 rfl rfl, List.forall_mem_cons.mpr ⟨gin 131 rfl rfl, List.forall_mem_cons.mpr ⟨gin 133 rfl rfl, List.forall_mem_cons.mpr ⟨gin 135 rfl rfl, List.forall_mem_cons.mpr ⟨gin 137 rfl rfl, List.forall_mem_cons.mpr ⟨gin 139 rfl rfl, List.forall_mem_cons.mpr ⟨gin 141 rfl rfl, List.forall_mem_cons.mpr ⟨gin 143 rfl rfl, List.forall_mem_cons.mpr ⟨gin 145 rfl rfl, List.forall_mem_cons.mpr ⟨gin 147 rfl rfl, fun _ h => absurd h List.not_mem_nil⟩⟩⟩⟩⟩⟩⟩⟩⟩⟩
theorem un_PR : ∀ a, a < 10 → ∀ b, b < 10 → a ≠ b → (TPR a).2.1 ≠ (TPR b).2.1 := by decide +kernel
theorem ut_PR : ∀ k, k < 10 → parseFieldDescriptor (TPR k).2.2.1 = some (YPR k) := by decide +kernel
set_option maxRecDepth 20000 in
theorem uw_SP : ∀ w ∈ u_ws RSP TSP 11, w ∈ gWS := by
  show ∀ w ∈ [u_lay RSP TSP 0, u_lay RSP TSP 1, u_lay RSP TSP 2, u_lay RSP TSP 3, u_lay RSP TSP 4, u_lay RSP TSP 5, u_lay RSP TSP 6, u_lay RSP TSP 7, u_lay RSP TSP 8, u_lay RSP TSP 9, u_lay RSP TSP 10], w ∈ gWS
  exact List.forall_mem_cons.mpr ⟨gin 202 rfl rfl, List.forall_mem_cons.mpr ⟨gin 204 rfl rfl, List.forall_mem_cons.mpr ⟨gin 206 rfl rfl, List.forall_mem_cons.mpr ⟨gin 208 rfl rfl, List.forall_mem_cons.mpr ⟨gin 210 rfl rfl, List.forall_mem_cons.mpr ⟨gin 212 rfl rfl, List.forall_mem_cons.mpr ⟨gin 214 rfl rfl, List.forall_mem_cons.mpr ⟨gin 216 rfl rfl, List.forall_mem_cons.mpr ⟨gin 218 rfl rfl, List.forall_mem_cons.mpr ⟨gin 220 rfl rfl, List.forall_mem_cons.mpr ⟨gin 222 rfl rfl, fun _ h => absurd h List.not_mem_nil⟩⟩⟩⟩⟩⟩⟩⟩⟩⟩⟩
theorem un_SP : ∀ a, a < 11 → ∀ b, b < 11 → a ≠ b → (TSP a).2.1 ≠ (TSP b).2.1 := by decide +kernel
theorem ut_SP : ∀ k, k < 11 → parseFieldDescriptor (TSP k).2.2.1 = some (YSP k) := by decide +kernel
set_option maxRecDepth 20000 in
theorem uw_WO : ∀ w ∈ u_ws RWO TWO 15, w ∈ gWS := by
  show ∀ w ∈ [u_lay RWO TWO 0, u_lay RWO TWO 1, u_lay RWO TWO 2, u_lay RWO TWO 3, u_lay RWO TWO 4, u_lay RWO TWO 5, u_lay RWO TWO 6, u_lay RWO TWO 7, u_lay RWO TWO 8, u_lay RWO TWO 9, u_lay RWO TWO 10, u_lay RWO TWO 11, u_lay RWO TWO 12, u_lay RWO TWO 13, u_lay RWO TWO 14], w ∈ gWS
  exact List.forall_mem_cons.mpr ⟨gin 74 rfl rfl, List.forall_mem_cons.mpr ⟨gin 76 rfl rfl, List.forall_mem_cons.mpr ⟨gin 78 rfl rfl, List.forall_mem_cons.mpr ⟨gin 80 rfl rfl, List.forall_mem_cons.mpr ⟨gin 82 rfl rfl, List.forall_mem_cons.mpr ⟨gin 84 rfl rfl, List.forall_mem_cons.mpr ⟨gin 86 rfl rfl, List.forall_mem_cons.mpr ⟨gin 88 rfl rfl, List.forall_mem_cons.mpr ⟨gin 90 rfl rfl, List.forall_mem_cons.mpr ⟨gin 92 rfl rfl, List.forall_mem_cons.mpr ⟨gin 94 rfl rfl, List.forall_mem_cons.mpr ⟨gin 96 rfl rfl, List.forall_mem_cons.mpr ⟨gin 98 rfl rfl, List.forall_mem_cons.mpr ⟨gin 100 rfl rfl, List.forall_mem_cons.mpr ⟨gin 102 rfl rfl, fun _ h => absurd h List.not_mem_nil⟩⟩⟩⟩⟩⟩⟩⟩⟩⟩⟩⟩⟩⟩⟩
theorem un_WO : ∀ a, a < 15 → ∀ b, b < 15 → a ≠ b → (TWO a).2.1 ≠ (TWO b).2.1 := by decide +kernel
theorem ut_WO : ∀ k, k < 15 → parseFieldDescriptor (TWO k).2.2.1 = some (YWO k) := by decide +kernel
set_option maxRecDepth 20000 in
theorem uw_RM : ∀ w ∈ u_ws RRM TRM 8, w ∈ gWS := by
  show ∀ w ∈ [u_lay RRM TRM 0, u_lay RRM TRM 1, u_lay RRM TRM 2, u_lay RRM TRM 3, u_lay RRM TRM 4, u_lay RRM TRM 5, u_lay RRM TRM 6, u_lay RRM TRM 7], w ∈ gWS
  exact List.forall_mem_cons.mpr ⟨gin 234 rfl rfl, List.forall_mem_cons.mpr ⟨gin 236 rfl rfl, List.forall_mem_cons.mpr ⟨gin 238 rfl rfl, List.forall_mem_cons.mpr ⟨gin 240 rfl rfl, List.forall_mem_cons.mpr ⟨gin 242 rfl rfl, List.forall_mem_cons.mpr ⟨gin 244 rfl rfl, List.forall_mem_cons.mpr ⟨gin 246 rfl rfl, List.forall_mem_cons.mpr ⟨gin 248 rfl rfl, fun _ h => absurd h List.not_mem_nil⟩⟩⟩⟩⟩⟩⟩⟩
theorem un_RM : ∀ a, a < 8 → ∀ b, b < 8 → a ≠ b → (TRM a).2.1 ≠ (TRM b).2.1 := by decide +kernel
theorem ut_RM : ∀ k, k < 8 → parseFieldDescriptor (TRM k).2.2.1 = some (YRM k) := by decide +kernel
set_option maxRecDepth 20000 in
theorem uw_RF : ∀ w ∈ u_ws RRF TRF 33, w ∈ gWS := by
  show ∀ w ∈ [u_lay RRF TRF 0, u_lay RRF TRF 1, u_lay RRF TRF 2, u_lay RRF TRF 3, u_lay RRF TRF 4, u_lay RRF TRF 5, u_lay RRF TRF 6, u_lay RRF TRF 7, u_lay RRF TRF 8, u_lay RRF TRF 9, u_lay RRF TRF 10, u_lay RRF TRF 11, u_lay RRF TRF 12, u_lay RRF TRF 13, u_lay RRF TRF 14, u_lay RRF TRF 15, u_lay RRF TRF 16, u_lay RRF TRF 17, u_lay RRF TRF 18, u_lay RRF TRF 19, u_lay RRF TRF 20, u_lay RRF TRF 21, u_lay RRF TRF 22, u_lay RRF TRF 23, u_lay RRF TRF 24, u_lay RRF TRF 25, u_lay RRF TRF 26, u_lay RRF TRF 27, u_lay RRF TRF 28, u_lay RRF TRF 29, u_lay RRF TRF 30, u_lay RRF TRF 31, u_lay RRF TRF 32], w ∈ gWS
  exact List.forall_mem_cons.mpr ⟨gin 816 rfl rfl, List.forall_mem_cons.mpr ⟨gin 818 rfl rfl, List.forall_mem_cons.mpr ⟨gin 820 rfl rfl, List.forall_mem_cons.mpr ⟨gin 822 rfl rfl, List.forall_mem_cons.mpr ⟨gin 824 rfl rfl, List.forall_mem_cons.mpr ⟨gin 826 rfl rfl, List.forall_mem_cons.mpr ⟨gin 828 rfl rfl, List.forall_mem_cons.mpr ⟨gin 830 rfl rfl, List.forall_mem_cons.mpr ⟨gin 832 rfl rfl, List.forall_mem_cons.mpr ⟨gin 834 rfl rfl, List.forall_mem_cons.mpr ⟨gin 836 rfl rfl, List.forall_mem_cons.mpr ⟨gin 838 rfl rfl, List.forall_mem_cons.mpr ⟨gin 840 rfl rfl, List.forall_mem_cons.mpr ⟨gin 842 rfl rfl, List.forall_mem_cons.mpr ⟨gin 844 rfl rfl, List.forall_mem_cons.mpr ⟨gin 846 rfl rfl, List.forall_mem_cons.mpr ⟨gin 848 rfl rfl, List.forall_mem_cons.mpr ⟨gin 850 rfl rfl, List.forall_mem_cons.mpr ⟨gin 852 rfl rfl, List.forall_mem_cons.mpr ⟨gin 854 rfl rfl, List.forall_mem_cons.mpr ⟨gin 856 rfl rfl, List.forall_mem_cons.mpr ⟨gin 858 rfl rfl, List.forall_mem_cons.mpr ⟨gin 860 rfl rfl, List.forall_mem_cons.mpr ⟨gin 862 rfl rfl, List.forall_mem_cons.mpr ⟨gin 864 rfl rfl, List.forall_mem_cons.mpr ⟨gin 866 rfl rfl, List.forall_mem_cons.mpr ⟨gin 868 rfl rfl, List.forall_mem_cons.mpr ⟨gin 870 rfl rfl, List.forall_mem_cons.mpr ⟨gin 872 rfl rfl, List.forall_mem_cons.mpr ⟨gin 874 rfl rfl, List.forall_mem_cons.mpr ⟨gin 876 rfl rfl, List.forall_mem_cons.mpr ⟨gin 878 rfl rfl, List.forall_mem_cons.mpr ⟨gin 880 rfl rfl, fun _ h => absurd h List.not_mem_nil⟩⟩⟩⟩⟩⟩⟩⟩⟩⟩⟩⟩⟩⟩⟩⟩⟩⟩⟩⟩⟩⟩⟩⟩⟩⟩⟩⟩⟩⟩⟩⟩⟩
theorem un_RF : ∀ a, a < 33 → ∀ b, b < 33 → a ≠ b → (TRF a).2.1 ≠ (TRF b).2.1 := by decide +kernel
theorem ut_RF : ∀ k, k < 33 → parseFieldDescriptor (TRF k).2.2.1 = some (YRF k) := by decide +kernel
theorem gCL_ok {ci N : Nat} {CN : String} {T : u_T} (h : gCL[ci]? = some (CN, T, N)) : (∀ w ∈ u_ws CN T N, w ∈ gWS) ∧ (∀ k, k < N → parseFieldDescriptor (T k).2.2.1 = some (gTY ci k)) ∧ (∀ a, a < N → ∀ b, b < N → a ≠ b → (T a).2.1 ≠ (T b).2.1) := by
  match ci, h with
  | 0, h => cases h; exact ⟨uw_CL, ut_CL, un_CL⟩
  | 1, h => cases h; exact ⟨uw_MA, ut_MA, un_MA⟩
  | 2, h => cases h; exact ⟨uw_PR, ut_PR, un_PR⟩
  | 3, h => cases h; exact ⟨uw_SP, ut_SP, un_SP⟩
  | 4, h => cases h; exact ⟨uw_WO, ut_WO, un_WO⟩
  | 5, h => cases h; exact ⟨uw_RM, ut_RM, un_RM⟩
  | 6, h => cases h; exact ⟨uw_RF, ut_RF, un_RF⟩
  | ci + 7, h => simp [gCL] at h
abbrev gFe : Type := String × Nat × Nat × Nat
def gFLp (e : gFe) : Prop := ∃ q : vw_C, gCL[e.2.2.1]? = some q ∧ e.2.2.2 < q.2.2 ∧ Cond.fieldLink e.1 e.2.1 (q.2.1 e.2.2.2).1 (q.2.1 e.2.2.2).2.1 (q.2.1 e.2.2.2).2.2.1 ∈ gWS
def gFL0 : List gFe := [("RiddleMill$ClueList", 9, 0, 0), ("RiddleMill", 99, 0, 0), ("RiddleMill$Worlds", 89, 0, 0), ("RiddleMill$Proof", 89, 0, 0), ("RiddleMill$ClueList", 15, 0, 1), ("RiddleMill$Maker", 45, 0, 1), ("RiddleMill$Worlds", 84, 0, 1), ("RiddleMill$Proof", 84, 0, 1), ("RiddleMill", 204, 0, 1), ("RiddleMill$Worlds", 30, 4, 0), ("RiddleMill$Worlds", 34, 4, 1), ("RiddleMill$Worlds", 9, 4, 2), ("RiddleMill$Worlds", 15, 4, 3), ("RiddleMill$Worlds", 18, 4, 4), ("RiddleMill$Worlds", 21, 4, 5), ("RiddleMill$Worlds", 24, 4, 6), ("RiddleMill$Worlds", 27, 4, 7), ("RiddleMill$Worlds", 41, 4, 8), ("RiddleMill$Worlds", 57, 4, 9), ("RiddleMill$Worlds", 63, 4, 10), ("RiddleMill$Worlds", 48, 4, 11), ("RiddleMill$Worlds", 60, 4, 12), ("RiddleMill$Worlds", 66, 4, 13), ("RiddleMill$Worlds", 80, 4, 14)]
set_option maxRecDepth 20000 in
theorem gFLo0 : ∀ e ∈ gFL0, gFLp e := List.forall_mem_cons.mpr ⟨⟨_, rfl, by decide, gin 38 rfl rfl⟩, List.forall_mem_cons.mpr ⟨⟨_, rfl, by decide, gin 39 rfl rfl⟩, List.forall_mem_cons.mpr ⟨⟨_, rfl, by decide, gin 40 rfl rfl⟩, List.forall_mem_cons.mpr ⟨⟨_, rfl, by decide, gin 41 rfl rfl⟩, List.forall_mem_cons.mpr ⟨⟨_, rfl, by decide, gin 42 rfl rfl⟩, List.forall_mem_cons.mpr ⟨⟨_, rfl, by decide, gin 43 rfl rfl⟩, List.forall_mem_cons.mpr ⟨⟨_, rfl, by decide, gin 44 rfl rfl⟩, List.forall_mem_cons.mpr ⟨⟨_, rfl, by decide, gin 45 rfl rfl⟩, List.forall_mem_cons.mpr ⟨⟨_, rfl, by decide, gin 46 rfl rfl⟩, List.forall_mem_cons.mpr ⟨⟨_, rfl, by decide, gin 59 rfl rfl⟩, List.forall_mem_cons.mpr ⟨⟨_, rfl, by decide, gin 60 rfl rfl⟩, List.forall_mem_cons.mpr ⟨⟨_, rfl, by decide, gin 61 rfl rfl⟩, List.forall_mem_cons.mpr ⟨⟨_, rfl, by decide, gin 62 rfl rfl⟩, List.forall_mem_cons.mpr ⟨⟨_, rfl, by decide, gin 63 rfl rfl⟩, List.forall_mem_cons.mpr ⟨⟨_, rfl, by decide, gin 64 rfl rfl⟩, List.forall_mem_cons.mpr ⟨⟨_, rfl, by decide, gin 65 rfl rfl⟩, List.forall_mem_cons.mpr ⟨⟨_, rfl, by decide, gin 66 rfl rfl⟩, List.forall_mem_cons.mpr ⟨⟨_, rfl, by decide, gin 67 rfl rfl⟩, List.forall_mem_cons.mpr ⟨⟨_, rfl, by decide, gin 68 rfl rfl⟩, List.forall_mem_cons.mpr ⟨⟨_, rfl, by decide, gin 69 rfl rfl⟩, List.forall_mem_cons.mpr ⟨⟨_, rfl, by decide, gin 70 rfl rfl⟩, List.forall_mem_cons.mpr ⟨⟨_, rfl, by decide, gin 71 rfl rfl⟩, List.forall_mem_cons.mpr ⟨⟨_, rfl, by decide, gin 72 rfl rfl⟩, List.forall_mem_cons.mpr ⟨⟨_, rfl, by decide, gin 73 rfl rfl⟩, fun _ h => absurd h List.not_mem_nil⟩⟩⟩⟩⟩⟩⟩⟩⟩⟩⟩⟩⟩⟩⟩⟩⟩⟩⟩⟩⟩⟩⟩⟩
def gFL1 : List gFe := [("RiddleMill$Proof", 27, 2, 0), ("RiddleMill$Proof", 31, 2, 1), ("RiddleMill$Proof", 9, 2, 2), ("RiddleMill", 156, 2, 2), ("RiddleMill$Proof", 15, 2, 3), ("RiddleMill", 144, 2, 3), ("RiddleMill$Proof", 18, 2, 4), ("RiddleMill", 147, 2, 4), ("RiddleMill$Proof", 21, 2, 5), ("RiddleMill", 150, 2, 5), ("RiddleMill$Proof", 24, 2, 6), ("RiddleMill", 153, 2, 6), ("RiddleMill$Proof", 34, 2, 7), ("RiddleMill", 141, 2, 7), ("RiddleMill$Proof", 37, 2, 8), ("RiddleMill$Maker", 71, 2, 8), ("RiddleMill", 159, 2, 8), ("RiddleMill$Proof", 40, 2, 9), ("RiddleMill$Maker", 25, 1, 0), ("RiddleMill$Maker", 29, 1, 1), ("RiddleMill$Maker", 9, 1, 2), ("RiddleMill$Maker", 15, 1, 3), ("RiddleMill$Maker", 48, 1, 4), ("RiddleMill$Maker", 32, 1, 5)]
set_option maxRecDepth 20000 in
theorem gFLo1 : ∀ e ∈ gFL1, gFLp e := List.forall_mem_cons.mpr ⟨⟨_, rfl, by decide, gin 111 rfl rfl⟩, List.forall_mem_cons.mpr ⟨⟨_, rfl, by decide, gin 112 rfl rfl⟩, List.forall_mem_cons.mpr ⟨⟨_, rfl, by decide, gin 113 rfl rfl⟩, List.forall_mem_cons.mpr ⟨⟨_, rfl, by decide, gin 114 rfl rfl⟩, List.forall_mem_cons.mpr ⟨⟨_, rfl, by decide, gin 115 rfl rfl⟩, List.forall_mem_cons.mpr ⟨⟨_, rfl, by decide, gin 116 rfl rfl⟩, List.forall_mem_cons.mpr ⟨⟨_, rfl, by decide, gin 117 rfl rfl⟩, List.forall_mem_cons.mpr ⟨⟨_, rfl, by decide, gin 118 rfl rfl⟩, List.forall_mem_cons.mpr ⟨⟨_, rfl, by decide, gin 119 rfl rfl⟩, List.forall_mem_cons.mpr ⟨⟨_, rfl, by decide, gin 120 rfl rfl⟩, List.forall_mem_cons.mpr ⟨⟨_, rfl, by decide, gin 121 rfl rfl⟩, List.forall_mem_cons.mpr ⟨⟨_, rfl, by decide, gin 122 rfl rfl⟩, List.forall_mem_cons.mpr ⟨⟨_, rfl, by decide, gin 123 rfl rfl⟩, List.forall_mem_cons.mpr ⟨⟨_, rfl, by decide, gin 124 rfl rfl⟩, List.forall_mem_cons.mpr ⟨⟨_, rfl, by decide, gin 125 rfl rfl⟩, List.forall_mem_cons.mpr ⟨⟨_, rfl, by decide, gin 126 rfl rfl⟩, List.forall_mem_cons.mpr ⟨⟨_, rfl, by decide, gin 127 rfl rfl⟩, List.forall_mem_cons.mpr ⟨⟨_, rfl, by decide, gin 128 rfl rfl⟩, List.forall_mem_cons.mpr ⟨⟨_, rfl, by decide, gin 158 rfl rfl⟩, List.forall_mem_cons.mpr ⟨⟨_, rfl, by decide, gin 159 rfl rfl⟩, List.forall_mem_cons.mpr ⟨⟨_, rfl, by decide, gin 160 rfl rfl⟩, List.forall_mem_cons.mpr ⟨⟨_, rfl, by decide, gin 161 rfl rfl⟩, List.forall_mem_cons.mpr ⟨⟨_, rfl, by decide, gin 162 rfl rfl⟩, List.forall_mem_cons.mpr ⟨⟨_, rfl, by decide, gin 163 rfl rfl⟩, fun _ h => absurd h List.not_mem_nil⟩⟩⟩⟩⟩⟩⟩⟩⟩⟩⟩⟩⟩⟩⟩⟩⟩⟩⟩⟩⟩⟩⟩⟩
def gFL2 : List gFe := [("RiddleMill$Maker", 21, 1, 6), ("RiddleMill", 169, 1, 6), ("RiddleMill$Speech", 9, 3, 0), ("RiddleMill$Speech", 15, 3, 1), ("RiddleMill$Speech", 91, 3, 2), ("RiddleMill$Speech", 19, 3, 3), ("RiddleMill", 185, 3, 3), ("RiddleMill$Speech", 67, 3, 4), ("RiddleMill", 182, 3, 4), ("RiddleMill$Speech", 22, 3, 5), ("RiddleMill", 201, 3, 5), ("RiddleMill$Speech", 133, 3, 6), ("RiddleMill", 198, 3, 6), ("RiddleMill$Speech", 26, 3, 7), ("RiddleMill$Speech", 97, 3, 8), ("RiddleMill$Speech", 116, 3, 9), ("RiddleMill$Speech", 94, 3, 10), ("RiddleMill", 16, 5, 0), ("RiddleMill", 22, 5, 1), ("RiddleMill", 28, 5, 2), ("RiddleMill", 37, 5, 3), ("RiddleMill", 44, 5, 4), ("RiddleMill", 48, 5, 5), ("RiddleMill", 54, 5, 6)]
set_option maxRecDepth 20000 in
theorem gFLo2 : ∀ e ∈ gFL2, gFLp e := List.forall_mem_cons.mpr ⟨⟨_, rfl, by decide, gin 164 rfl rfl⟩, List.forall_mem_cons.mpr ⟨⟨_, rfl, by decide, gin 165 rfl rfl⟩, List.forall_mem_cons.mpr ⟨⟨_, rfl, by decide, gin 187 rfl rfl⟩, List.forall_mem_cons.mpr ⟨⟨_, rfl, by decide, gin 188 rfl rfl⟩, List.forall_mem_cons.mpr ⟨⟨_, rfl, by decide, gin 189 rfl rfl⟩, List.forall_mem_cons.mpr ⟨⟨_, rfl, by decide, gin 190 rfl rfl⟩, List.forall_mem_cons.mpr ⟨⟨_, rfl, by decide, gin 191 rfl rfl⟩, List.forall_mem_cons.mpr ⟨⟨_, rfl, by decide, gin 192 rfl rfl⟩, List.forall_mem_cons.mpr ⟨⟨_, rfl, by decide, gin 193 rfl rfl⟩, List.forall_mem_cons.mpr ⟨⟨_, rfl, by decide, gin 194 rfl rfl⟩, List.forall_mem_cons.mpr ⟨⟨_, rfl, by decide, gin 195 rfl rfl⟩, List.forall_mem_cons.mpr ⟨⟨_, rfl, by decide, gin 196 rfl rfl⟩, List.forall_mem_cons.mpr ⟨⟨_, rfl, by decide, gin 197 rfl rfl⟩, List.forall_mem_cons.mpr ⟨⟨_, rfl, by decide, gin 198 rfl rfl⟩, List.forall_mem_cons.mpr ⟨⟨_, rfl, by decide, gin 199 rfl rfl⟩, List.forall_mem_cons.mpr ⟨⟨_, rfl, by decide, gin 200 rfl rfl⟩, List.forall_mem_cons.mpr ⟨⟨_, rfl, by decide, gin 201 rfl rfl⟩, List.forall_mem_cons.mpr ⟨⟨_, rfl, by decide, gin 226 rfl rfl⟩, List.forall_mem_cons.mpr ⟨⟨_, rfl, by decide, gin 227 rfl rfl⟩, List.forall_mem_cons.mpr ⟨⟨_, rfl, by decide, gin 228 rfl rfl⟩, List.forall_mem_cons.mpr ⟨⟨_, rfl, by decide, gin 229 rfl rfl⟩, List.forall_mem_cons.mpr ⟨⟨_, rfl, by decide, gin 230 rfl rfl⟩, List.forall_mem_cons.mpr ⟨⟨_, rfl, by decide, gin 231 rfl rfl⟩, List.forall_mem_cons.mpr ⟨⟨_, rfl, by decide, gin 232 rfl rfl⟩, fun _ h => absurd h List.not_mem_nil⟩⟩⟩⟩⟩⟩⟩⟩⟩⟩⟩⟩⟩⟩⟩⟩⟩⟩⟩⟩⟩⟩⟩⟩
def gFL3 : List gFe := [("RiddleMill", 61, 5, 7), ("RiddleMillModel", 39, 6, 0), ("RiddleMillModel", 94, 6, 1), ("RiddleMillModel", 85, 6, 2), ("RiddleMillModel", 88, 6, 3), ("RiddleMillModel", 91, 6, 4), ("RiddleMillModel", 43, 6, 5), ("RiddleMillModel", 101, 6, 6), ("RiddleMillModel", 234, 6, 7), ("RiddleMillModel", 47, 6, 8), ("RiddleMillModel", 50, 6, 9), ("RiddleMillModel", 53, 6, 10), ("RiddleMillModel", 180, 6, 11), ("RiddleMillModel", 199, 6, 12), ("RiddleMillModel", 56, 6, 13), ("RiddleMillModel", 59, 6, 14), ("RiddleMillModel", 62, 6, 15), ("RiddleMillModel", 65, 6, 16), ("RiddleMillModel", 68, 6, 17), ("RiddleMillModel", 71, 6, 18), ("RiddleMillModel", 75, 6, 19), ("RiddleMillModel", 250, 6, 20), ("RiddleMillModel", 267, 6, 21), ("RiddleMillModel", 78, 6, 22)]
set_option maxRecDepth 20000 in
theorem gFLo3 : ∀ e ∈ gFL3, gFLp e := List.forall_mem_cons.mpr ⟨⟨_, rfl, by decide, gin 233 rfl rfl⟩, List.forall_mem_cons.mpr ⟨⟨_, rfl, by decide, gin 783 rfl rfl⟩, List.forall_mem_cons.mpr ⟨⟨_, rfl, by decide, gin 784 rfl rfl⟩, List.forall_mem_cons.mpr ⟨⟨_, rfl, by decide, gin 785 rfl rfl⟩, List.forall_mem_cons.mpr ⟨⟨_, rfl, by decide, gin 786 rfl rfl⟩, List.forall_mem_cons.mpr ⟨⟨_, rfl, by decide, gin 787 rfl rfl⟩, List.forall_mem_cons.mpr ⟨⟨_, rfl, by decide, gin 788 rfl rfl⟩, List.forall_mem_cons.mpr ⟨⟨_, rfl, by decide, gin 789 rfl rfl⟩, List.forall_mem_cons.mpr ⟨⟨_, rfl, by decide, gin 790 rfl rfl⟩, List.forall_mem_cons.mpr ⟨⟨_, rfl, by decide, gin 791 rfl rfl⟩, List.forall_mem_cons.mpr ⟨⟨_, rfl, by decide, gin 792 rfl rfl⟩, List.forall_mem_cons.mpr ⟨⟨_, rfl, by decide, gin 793 rfl rfl⟩, List.forall_mem_cons.mpr ⟨⟨_, rfl, by decide, gin 794 rfl rfl⟩, List.forall_mem_cons.mpr ⟨⟨_, rfl, by decide, gin 795 rfl rfl⟩, List.forall_mem_cons.mpr ⟨⟨_, rfl, by decide, gin 796 rfl rfl⟩, List.forall_mem_cons.mpr ⟨⟨_, rfl, by decide, gin 797 rfl rfl⟩, List.forall_mem_cons.mpr ⟨⟨_, rfl, by decide, gin 798 rfl rfl⟩, List.forall_mem_cons.mpr ⟨⟨_, rfl, by decide, gin 799 rfl rfl⟩, List.forall_mem_cons.mpr ⟨⟨_, rfl, by decide, gin 800 rfl rfl⟩, List.forall_mem_cons.mpr ⟨⟨_, rfl, by decide, gin 801 rfl rfl⟩, List.forall_mem_cons.mpr ⟨⟨_, rfl, by decide, gin 802 rfl rfl⟩, List.forall_mem_cons.mpr ⟨⟨_, rfl, by decide, gin 803 rfl rfl⟩, List.forall_mem_cons.mpr ⟨⟨_, rfl, by decide, gin 804 rfl rfl⟩, List.forall_mem_cons.mpr ⟨⟨_, rfl, by decide, gin 805 rfl rfl⟩, fun _ h => absurd h List.not_mem_nil⟩⟩⟩⟩⟩⟩⟩⟩⟩⟩⟩⟩⟩⟩⟩⟩⟩⟩⟩⟩⟩⟩⟩⟩
def gFL4 : List gFe := [("RiddleMillModel", 270, 6, 23), ("RiddleMillModel", 213, 6, 24), ("RiddleMillModel", 82, 6, 25), ("RiddleMillModel", 207, 6, 26), ("RiddleMillModel", 299, 6, 27), ("RiddleMillModel", 325, 6, 28), ("RiddleMillModel", 314, 6, 29), ("RiddleMillModel", 317, 6, 30), ("RiddleMillModel", 308, 6, 31), ("RiddleMillModel", 320, 6, 32)]
set_option maxRecDepth 20000 in
theorem gFLo4 : ∀ e ∈ gFL4, gFLp e := List.forall_mem_cons.mpr ⟨⟨_, rfl, by decide, gin 806 rfl rfl⟩, List.forall_mem_cons.mpr ⟨⟨_, rfl, by decide, gin 807 rfl rfl⟩, List.forall_mem_cons.mpr ⟨⟨_, rfl, by decide, gin 808 rfl rfl⟩, List.forall_mem_cons.mpr ⟨⟨_, rfl, by decide, gin 809 rfl rfl⟩, List.forall_mem_cons.mpr ⟨⟨_, rfl, by decide, gin 810 rfl rfl⟩, List.forall_mem_cons.mpr ⟨⟨_, rfl, by decide, gin 811 rfl rfl⟩, List.forall_mem_cons.mpr ⟨⟨_, rfl, by decide, gin 812 rfl rfl⟩, List.forall_mem_cons.mpr ⟨⟨_, rfl, by decide, gin 813 rfl rfl⟩, List.forall_mem_cons.mpr ⟨⟨_, rfl, by decide, gin 814 rfl rfl⟩, List.forall_mem_cons.mpr ⟨⟨_, rfl, by decide, gin 815 rfl rfl⟩, fun _ h => absurd h List.not_mem_nil⟩⟩⟩⟩⟩⟩⟩⟩⟩⟩
def gFL : List gFe := gFL0 ++ gFL1 ++ gFL2 ++ gFL3 ++ gFL4
theorem gFL_ok : ∀ e ∈ gFL, gFLp e := by
  intro e he
  simp only [gFL, List.mem_append] at he
  rcases he with ((((h | h) | h) | h) | h)
  · exact gFLo0 e h
  · exact gFLo1 e h
  · exact gFLo2 e h
  · exact gFLo3 e h
  · exact gFLo4 e h
def gF (own : String) (idx : Nat) : Option (Nat × Nat) := (gFL.find? (fun e => e.1 == own && e.2.1 == idx)).map (fun e => e.2.2)
theorem gF_mem {own : String} {idx ci j : Nat} (h : gF own idx = some (ci, j)) : (own, idx, ci, j) ∈ gFL := by
  unfold gF at h
  cases hf : gFL.find? (fun e => e.1 == own && e.2.1 == idx) with
  | none => rw [hf] at h; cases h
  | some e =>
    rw [hf] at h
    have h1 := List.find?_some hf
    have h2 := List.mem_of_find?_eq_some hf
    obtain ⟨a, b, c, d⟩ := e
    simp at h h1
    obtain ⟨rfl, rfl⟩ := h1
    obtain ⟨rfl, rfl⟩ := h
    exact h2
def gNW : List Cond := [.methodLinkNest "RiddleMill" 27 ⟨"RiddleMill$ClueList", "<init>", "()V"⟩ "RiddleMill", .methodLinkNest "RiddleMill$Maker" 20 ⟨"RiddleMill$ClueList", "<init>", "()V"⟩ "RiddleMill", .methodLinkNest "RiddleMill" 60 ⟨"RiddleMill$Speech", "<init>", "()V"⟩ "RiddleMill"]
theorem gNW_on : ∀ w ∈ gNW, w.onTables = true := by
  intro w hw
  simp only [gNW, List.mem_cons, List.not_mem_nil, or_false] at hw
  rcases hw with rfl | rfl | rfl <;> rfl
theorem gNW_warm {s U : State} (hW : s.WarmedH U.vm) : ∀ w ∈ gNW, va_Nw w s → va_Nw w U := by
  intro w hw h
  simp only [gNW, List.mem_cons, List.not_mem_nil, or_false] at hw
  rcases hw with rfl | rfl | rfl <;> exact va_Nw.warmM hW h
theorem gF_ok {own : String} {idx ci j : Nat} (h : gF own idx = some (ci, j)) : ∃ q : vw_C, gCL[ci]? = some q ∧ j < q.2.2 ∧ (∀ w ∈ u_ws q.1 q.2.1 q.2.2, w ∈ gWS) ∧ (Cond.fieldLink own idx (q.2.1 j).1 (q.2.1 j).2.1 (q.2.1 j).2.2.1 ∈ gWS ∨ ∃ host : String, Cond.fieldLinkNest own idx (q.2.1 j).1 (q.2.1 j).2.1 (q.2.1 j).2.2.1 host ∈ gNW) := by
  obtain ⟨⟨a, b, c⟩, h1, h2, h3⟩ := gFL_ok _ (gF_mem h)
  exact ⟨(a, b, c), h1, h2, (gCL_ok h1).1, Or.inl h3⟩
def gFp (y : MethodName) (idx : Nat) : Option (Nat × Nat) := match gF y.cls idx with
  | some (ci, j) => match gCL[ci]? with
    | some q => if (q.2.1 j).2.2.2 = false then some (ci, j) else if y.name = "<init>" ∧ (q.2.1 j).1 = y.cls then some (ci, j) else none
    | none => none
  | none => none
theorem gFp_ok {y : MethodName} {idx ci j : Nat} (h : gFp y idx = some (ci, j)) : ∃ q : vw_C, gCL[ci]? = some q ∧ j < q.2.2 ∧ (∀ w ∈ u_ws q.1 q.2.1 q.2.2, w ∈ gWS) ∧ (∀ k, k < q.2.2 → parseFieldDescriptor (q.2.1 k).2.2.1 = some (gTY ci k)) ∧ (∀ a, a < q.2.2 → ∀ b, b < q.2.2 → a ≠ b → (q.2.1 a).2.1 ≠ (q.2.1 b).2.1) ∧ (((q.2.1 j).2.2.2 = false ∧ Cond.fieldLink y.cls idx (q.2.1 j).1 (q.2.1 j).2.1 (q.2.1 j).2.2.1 ∈ gWS) ∨ ((q.2.1 j).2.2.2 = true ∧ y.name = "<init>" ∧ (q.2.1 j).1 = y.cls ∧ Cond.fieldLink y.cls idx (q.2.1 j).1 (q.2.1 j).2.1 (q.2.1 j).2.2.1 ∈ gWS)) := by
  unfold gFp at h
  split at h
  · rename_i ci0 j0 hF
    obtain ⟨⟨a, b, c⟩, h1, h2, h3⟩ := gFL_ok _ (gF_mem hF)
    dsimp only at h1 h2 h3
    rw [h1] at h
    dsimp only at h
    have hk := gCL_ok h1
    split at h
    · rename_i hz
      cases h
      exact ⟨(a, b, c), h1, h2, hk.1, hk.2.1, hk.2.2, Or.inl ⟨hz, h3⟩⟩
    · rename_i hz
      split at h
      · rename_i hy
        cases h
        exact ⟨(a, b, c), h1, h2, hk.1, hk.2.1, hk.2.2, Or.inr ⟨by simpa using hz, hy.1, hy.2, h3⟩⟩
      · cases h
  · cases h
def gKi_t : List (String × Nat × Int32) := [("RiddleMill$Worlds", 79, 1000000), ("java/lang/Integer", 265, 1431655765), ("java/lang/Integer", 266, 858993459), ("java/lang/Integer", 267, 252645135), ("RiddleMill", 162, 2147483646), ("RiddleMillModel", 233, 2147483646)]
set_option maxRecDepth 20000 in
theorem gKi_o : ∀ e ∈ gKi_t, Cond.constant e.1 e.2.1 e.2.2 ∈ gWS := List.forall_mem_cons.mpr ⟨gin 293 rfl rfl, List.forall_mem_cons.mpr ⟨gin 315 rfl rfl, List.forall_mem_cons.mpr ⟨gin 316 rfl rfl, List.forall_mem_cons.mpr ⟨gin 317 rfl rfl, List.forall_mem_cons.mpr ⟨gin 671 rfl rfl, List.forall_mem_cons.mpr ⟨gin 1043 rfl rfl, fun _ h => absurd h List.not_mem_nil⟩⟩⟩⟩⟩⟩
def gKi (own : String) (idx : Nat) : Option Int32 := (gKi_t.find? (fun e => e.1 == own && e.2.1 == idx)).map (fun e => e.2.2)
theorem gKi_ok {own : String} {idx : Nat} {x : Int32} (h : gKi own idx = some x) : Cond.constant own idx x ∈ gWS := by
  unfold gKi at h
  cases hf : gKi_t.find? (fun e => e.1 == own && e.2.1 == idx) with
  | none => rw [hf] at h; cases h
  | some e =>
    rw [hf] at h
    have h1 := List.find?_some hf
    have h2 := gKi_o _ (List.mem_of_find?_eq_some hf)
    obtain ⟨a, b, c⟩ := e
    simp at h h1
    obtain ⟨rfl, rfl⟩ := h1
    subst h
    exact h2
def gKl_t : List (String × Nat × Int64) := [("RiddleMill$Speech", 43, 255), ("RiddleMill$Speech", 33, (-1)), ("RiddleMill$Speech", 77, 1935767923), ("RiddleMill$Speech", 89, 4), ("RiddleMill$Maker", 74, 48271), ("RiddleMill$Maker", 76, 2147483647), ("RiddleMill$Speech", 119, 48), ("RiddleMill$Speech", 121, 49), ("RiddleMill$Speech", 127, 57), ("RiddleMillModel", 9, 26995), ("RiddleMillModel", 11, 7237492), ("RiddleMillModel", 13, 1818584692), ("RiddleMillModel", 15, 1852143732), ("RiddleMillModel", 17, 28518), ("RiddleMillModel", 19, 29807), ("RiddleMillModel", 21, 1718775661), ("RiddleMillModel", 23, 27696098611389806), ("RiddleMillModel", 25, 6385252), ("RiddleMillModel", 27, 24948), ("RiddleMillModel", 29, 28530), ("RiddleMillModel", 31, 111503598970226), ("RiddleMillModel", 33, 504363246962), ("RiddleMillModel", 35, 26990), ("RiddleMillModel", 37, 1935767923), ("RiddleMillModel", 205, 48271), ("RiddleMillModel", 211, 2147483647), ("RiddleMillModel", 240, 255), ("RiddleMillModel", 246, 97), ("RiddleMillModel", 248, 122), ("RiddleMillModel", 263, 32), ("RiddleMillModel", 265, 126), ("RiddleMillModel", 288, 48), ("RiddleMillModel", 273, (-1)), ("RiddleMillModel", 323, 49), ("RiddleMillModel", 290, 57), ("RiddleMillLaw", 97, 4294967295)]
set_option maxRecDepth 20000 in
theorem gKl_o : ∀ e ∈ gKl_t, Cond.constantLong e.1 e.2.1 e.2.2 ∈ gWS := List.forall_mem_cons.mpr ⟨gin 428 rfl rfl, List.forall_mem_cons.mpr ⟨gin 429 rfl rfl, List.forall_mem_cons.mpr ⟨gin 460 rfl rfl, List.forall_mem_cons.mpr ⟨gin 468 rfl rfl, List.forall_mem_cons.mpr ⟨gin 686 rfl rfl, List.forall_mem_cons.mpr ⟨gin 687 rfl rfl, List.forall_mem_cons.mpr ⟨gin 745 rfl rfl, List.forall_mem_cons.mpr ⟨gin 746 rfl rfl, List.forall_mem_cons.mpr ⟨gin 760 rfl rfl, List.forall_mem_cons.mpr ⟨gin 768 rfl rfl, List.forall_mem_cons.mpr ⟨gin 769 rfl rfl, List.forall_mem_cons.mpr ⟨gin 770 rfl rfl, List.forall_mem_cons.mpr ⟨gin 771 rfl rfl, List.forall_mem_cons.mpr ⟨gin 772 rfl rfl, List.forall_mem_cons.mpr ⟨gin 773 rfl rfl, List.forall_mem_cons.mpr ⟨gin 774 rfl rfl, List.forall_mem_cons.mpr ⟨gin 775 rfl rfl, List.forall_mem_cons.mpr ⟨gin 776 rfl rfl, List.forall_mem_cons.mpr ⟨gin 777 rfl rfl, List.forall_mem_cons.mpr ⟨gin 778 rfl rfl, List.forall_mem_cons.mpr ⟨gin 779 rfl rfl, List.forall_mem_cons.mpr ⟨gin 780 rfl rfl, List.forall_mem_cons.mpr ⟨gin 781 rfl rfl, List.forall_mem_cons.mpr ⟨gin 782 rfl rfl, List.forall_mem_cons.mpr ⟨gin 1052 rfl rfl, List.forall_mem_cons.mpr ⟨gin 1053 rfl rfl, List.forall_mem_cons.mpr ⟨gin 1077 rfl rfl, List.forall_mem_cons.mpr ⟨gin 1078 rfl rfl, List.forall_mem_cons.mpr ⟨gin 1079 rfl rfl, List.forall_mem_cons.mpr ⟨gin 1104 rfl rfl, List.forall_mem_cons.mpr ⟨gin 1105 rfl rfl, List.forall_mem_cons.mpr ⟨gin 1110 rfl rfl, List.forall_mem_cons.mpr ⟨gin 1123 rfl rfl, List.forall_mem_cons.mpr ⟨gin 1124 rfl rfl, List.forall_mem_cons.mpr ⟨gin 1133 rfl rfl, List.forall_mem_cons.mpr ⟨gin 1163 rfl rfl, fun _ h => absurd h List.not_mem_nil⟩⟩⟩⟩⟩⟩⟩⟩⟩⟩⟩⟩⟩⟩⟩⟩⟩⟩⟩⟩⟩⟩⟩⟩⟩⟩⟩⟩⟩⟩⟩⟩⟩⟩⟩⟩
def gKl (own : String) (idx : Nat) : Option Int64 := (gKl_t.find? (fun e => e.1 == own && e.2.1 == idx)).map (fun e => e.2.2)
theorem gKl_ok {own : String} {idx : Nat} {x : Int64} (h : gKl own idx = some x) : Cond.constantLong own idx x ∈ gWS := by
  unfold gKl at h
  cases hf : gKl_t.find? (fun e => e.1 == own && e.2.1 == idx) with
  | none => rw [hf] at h; cases h
  | some e =>
    rw [hf] at h
    have h1 := List.find?_some hf
    have h2 := gKl_o _ (List.mem_of_find?_eq_some hf)
    obtain ⟨a, b, c⟩ := e
    simp at h h1
    obtain ⟨rfl, rfl⟩ := h1
    subst h
    exact h2
def gMt : Nat → gI := fun k => match k with
  | 0 => mRM_init
  | 1 => mJO_init
  | 2 => mJM_min
  | 3 => mJM_max
  | 4 => mCL_init
  | 5 => mWO_init
  | 6 => mPR_init
  | 7 => mMA_init
  | 8 => mSP_init
  | 9 => mRM_clueAt
  | 10 => mCL_has
  | 11 => mCO_kind
  | 12 => mCO_x
  | 13 => mCO_y
  | 14 => mCO_z
  | 15 => mCO_d
  | 16 => mCO_speaker
  | 17 => mRM_answer
  | 18 => mRM_isThing
  | 19 => mWO_alike
  | 20 => mWO_prepare
  | 21 => mWO_dueAt
  | 22 => mWO_placeFrom
  | 23 => mWO_take
  | 24 => mJI_bitCount
  | 25 => mWO_isMany
  | 26 => mWO_heard
  | 27 => mCO_isSo
  | 28 => mRM_prove
  | 29 => mPR_run
  | 30 => mCO_thingAt
  | 31 => mPR_bySort
  | 32 => mPR_barred
  | 33 => mPR_barredByLone
  | 34 => mPR_barredByOwn
  | 35 => mPR_barredByPairs
  | 36 => mPR_take
  | 37 => mPR_byClues
  | 38 => mCO_ruleOf
  | 39 => mCO_thingsOf
  | 40 => mPR_byClue
  | 41 => mCO_thingAfter
  | 42 => mPR_canBeSo
  | 43 => mPR_bitsFor
  | 44 => mPR_isSolved
  | 45 => mRM_step
  | 46 => mRM_may
  | 47 => mRM_rating
  | 48 => mRM_name
  | 49 => mSP_giveName
  | 50 => mSP_wordOf
  | 51 => mSP_isWord
  | 52 => mSP_thingNamed
  | 53 => mRM_print
  | 54 => mSP_show
  | 55 => mSP_lacksName
  | 56 => mSP_put
  | 57 => mSP_putWord
  | 58 => mRM_shown
  | 59 => mRM_type
  | 60 => mSP_append
  | 61 => mRM_fault
  | 62 => mRM_about
  | 63 => mLW_cell
  | 64 => mRM_clue
  | 65 => mRM_isAsTold
  | 66 => mCO_leastD
  | 67 => mCO_greatestD
  | 68 => mJT_init
  | 69 => mJA_init
  | 70 => mJR_init
  | 71 => mJE_init
  | 72 => mJT_init2
  | 73 => mCO_of
  | 74 => mRM_added
  | 75 => mCL_contains
  | 76 => mJX_init
  | 77 => mCL_add
  | 78 => mRM_drop
  | 79 => mJB_init
  | 80 => mCL_removeAt
  | 81 => mRM_count
  | 82 => mWO_number
  | 83 => mRM_needed
  | 84 => mWO_differ
  | 85 => mRM_make
  | 86 => mMA_find
  | 87 => mMA_drawWorld
  | 88 => mMA_draw
  | 89 => mMA_gather
  | 90 => mMA_gatherFor
  | 91 => mMA_consider
  | 92 => mMA_isPair
  | 93 => mMA_mix
  | 94 => mMA_thinOut
  | 95 => mCL_takeAll
  | 96 => mRM_read
  | 97 => mSP_parse
  | 98 => mSP_readSpeaker
  | 99 => mSP_readWord
  | 100 => mSP_isEnded
  | 101 => mSP_goingOn
  | 102 => mSP_meaning
  | 103 => mRF_init
  | 104 => mRF_thrown
  | 105 => mRF_clue
  | 106 => mRF_isClue
  | 107 => mRF_isThing
  | 108 => mRF_isThere
  | 109 => mRF_put
  | 110 => mRF_drop
  | 111 => mRF_remove
  | 112 => mRF_clueAt
  | 113 => mRF_count
  | 114 => mRF_worlds
  | 115 => mRF_lay
  | 116 => mRF_speakers
  | 117 => mRF_isSo
  | 118 => mRF_index
  | 119 => mRF_says
  | 120 => mRF_standing
  | 121 => mRF_many
  | 122 => mRF_answer
  | 123 => mRF_needed
  | 124 => mRF_differ
  | 125 => mRF_prove
  | 126 => mRF_work
  | 127 => mRF_isStuck
  | 128 => mRF_stepped
  | 129 => mRF_isOf
  | 130 => mRF_stepBy
  | 131 => mRF_takes
  | 132 => mRF_byOther
  | 133 => mRF_byOnly
  | 134 => mRF_byPair
  | 135 => mRF_size
  | 136 => mRF_isIn
  | 137 => mRF_canBe
  | 138 => mRF_mayBe
  | 139 => mRF_clash
  | 140 => mRF_step
  | 141 => mRF_may
  | 142 => mRF_rating
  | 143 => mRF_rated
  | 144 => mRF_make
  | 145 => mRF_once
  | 146 => mRF_draw
  | 147 => mRF_swapPlaces
  | 148 => mRF_gather
  | 149 => mRF_gatherTwo
  | 150 => mRF_possibly
  | 151 => mRF_name
  | 152 => mRF_letters
  | 153 => mRF_print
  | 154 => mRF_isNamed
  | 155 => mRF_show
  | 156 => mRF_showThing
  | 157 => mRF_shown
  | 158 => mRF_type
  | 159 => mRF_read
  | 160 => mRF_is
  | 161 => mRF_isAtEnd
  | 162 => mRF_word
  | 163 => mRF_digit
  | 164 => mRF_isDigit
  | 165 => mRF_bad
  | 166 => mRF_next
  | 167 => mRF_must
  | 168 => mRF_thing
  | 169 => mRF_rest
  | 170 => mRF_fault
  | _ => mRF_about
def gTL0 : List (String × Nat × Nat) := [("RiddleMillLaw", 45, 0), ("RiddleMill", 1, 1), ("RiddleMill", 7, 2), ("RiddleMill", 13, 3), ("RiddleMill$ClueList", 3, 1), ("RiddleMill", 34, 5), ("RiddleMill$Worlds", 3, 1), ("RiddleMill", 43, 6), ("RiddleMill$Proof", 3, 1), ("RiddleMill", 53, 7), ("RiddleMill$Maker", 3, 1), ("RiddleMill$Speech", 3, 1), ("RiddleMillLaw", 62, 9), ("RiddleMill", 86, 10), ("RiddleMill", 103, 11), ("RiddleMill", 106, 12), ("RiddleMill", 109, 13), ("RiddleMill", 112, 14), ("RiddleMill", 115, 15), ("RiddleMill", 118, 16), ("RiddleMillLaw", 70, 17), ("RiddleMill", 127, 18), ("RiddleMill", 130, 19), ("RiddleMill$Worlds", 37, 20)]
set_option maxRecDepth 20000 in
theorem gTLo0 : ∀ e ∈ gTL0, Cond.methodLink e.1 e.2.1 (gMt e.2.2).1 ∈ gWS := List.forall_mem_cons.mpr ⟨gin 20 rfl rfl, List.forall_mem_cons.mpr ⟨gin 23 rfl rfl, List.forall_mem_cons.mpr ⟨gin 26 rfl rfl, List.forall_mem_cons.mpr ⟨gin 29 rfl rfl, List.forall_mem_cons.mpr ⟨gin 37 rfl rfl, List.forall_mem_cons.mpr ⟨gin 55 rfl rfl, List.forall_mem_cons.mpr ⟨gin 58 rfl rfl, List.forall_mem_cons.mpr ⟨gin 107 rfl rfl, List.forall_mem_cons.mpr ⟨gin 110 rfl rfl, List.forall_mem_cons.mpr ⟨gin 152 rfl rfl, List.forall_mem_cons.mpr ⟨gin 155 rfl rfl, List.forall_mem_cons.mpr ⟨gin 186 rfl rfl, List.forall_mem_cons.mpr ⟨gin 251 rfl rfl, List.forall_mem_cons.mpr ⟨gin 255 rfl rfl, List.forall_mem_cons.mpr ⟨gin 259 rfl rfl, List.forall_mem_cons.mpr ⟨gin 262 rfl rfl, List.forall_mem_cons.mpr ⟨gin 265 rfl rfl, List.forall_mem_cons.mpr ⟨gin 268 rfl rfl, List.forall_mem_cons.mpr ⟨gin 271 rfl rfl, List.forall_mem_cons.mpr ⟨gin 274 rfl rfl, List.forall_mem_cons.mpr ⟨gin 277 rfl rfl, List.forall_mem_cons.mpr ⟨gin 281 rfl rfl, List.forall_mem_cons.mpr ⟨gin 285 rfl rfl, List.forall_mem_cons.mpr ⟨gin 289 rfl rfl, fun _ h => absurd h List.not_mem_nil⟩⟩⟩⟩⟩⟩⟩⟩⟩⟩⟩⟩⟩⟩⟩⟩⟩⟩⟩⟩⟩⟩⟩⟩
def gTL1 : List (String × Nat × Nat) := [("RiddleMill$Worlds", 92, 21), ("RiddleMill$Worlds", 95, 12), ("RiddleMill$Worlds", 100, 13), ("RiddleMill$Worlds", 103, 14), ("RiddleMill$Worlds", 106, 3), ("RiddleMill$Worlds", 109, 11), ("RiddleMill$Worlds", 112, 15), ("RiddleMill$Worlds", 44, 22), ("RiddleMill$Worlds", 115, 23), ("RiddleMill$Worlds", 73, 24), ("RiddleMill$Worlds", 69, 25), ("RiddleMill$Worlds", 119, 26), ("RiddleMill$Worlds", 122, 27), ("RiddleMill$Worlds", 126, 16), ("RiddleMillLaw", 77, 28), ("RiddleMill", 137, 29), ("RiddleMill$Proof", 44, 30), ("RiddleMill$Proof", 50, 31), ("RiddleMill$Proof", 68, 32), ("RiddleMill$Proof", 75, 33), ("RiddleMill$Proof", 62, 24), ("RiddleMill$Proof", 78, 34), ("RiddleMill$Proof", 81, 35), ("RiddleMill$Proof", 71, 36)]
set_option maxRecDepth 20000 in
theorem gTLo1 : ∀ e ∈ gTL1, Cond.methodLink e.1 e.2.1 (gMt e.2.2).1 ∈ gWS := List.forall_mem_cons.mpr ⟨gin 294 rfl rfl, List.forall_mem_cons.mpr ⟨gin 298 rfl rfl, List.forall_mem_cons.mpr ⟨gin 299 rfl rfl, List.forall_mem_cons.mpr ⟨gin 300 rfl rfl, List.forall_mem_cons.mpr ⟨gin 301 rfl rfl, List.forall_mem_cons.mpr ⟨gin 302 rfl rfl, List.forall_mem_cons.mpr ⟨gin 303 rfl rfl, List.forall_mem_cons.mpr ⟨gin 304 rfl rfl, List.forall_mem_cons.mpr ⟨gin 308 rfl rfl, List.forall_mem_cons.mpr ⟨gin 312 rfl rfl, List.forall_mem_cons.mpr ⟨gin 318 rfl rfl, List.forall_mem_cons.mpr ⟨gin 321 rfl rfl, List.forall_mem_cons.mpr ⟨gin 325 rfl rfl, List.forall_mem_cons.mpr ⟨gin 328 rfl rfl, List.forall_mem_cons.mpr ⟨gin 329 rfl rfl, List.forall_mem_cons.mpr ⟨gin 333 rfl rfl, List.forall_mem_cons.mpr ⟨gin 337 rfl rfl, List.forall_mem_cons.mpr ⟨gin 340 rfl rfl, List.forall_mem_cons.mpr ⟨gin 344 rfl rfl, List.forall_mem_cons.mpr ⟨gin 348 rfl rfl, List.forall_mem_cons.mpr ⟨gin 352 rfl rfl, List.forall_mem_cons.mpr ⟨gin 353 rfl rfl, List.forall_mem_cons.mpr ⟨gin 357 rfl rfl, List.forall_mem_cons.mpr ⟨gin 361 rfl rfl, fun _ h => absurd h List.not_mem_nil⟩⟩⟩⟩⟩⟩⟩⟩⟩⟩⟩⟩⟩⟩⟩⟩⟩⟩⟩⟩⟩⟩⟩⟩
def gTL2 : List (String × Nat × Nat) := [("RiddleMill$Proof", 131, 3), ("RiddleMill$Proof", 54, 37), ("RiddleMill$Proof", 92, 16), ("RiddleMill$Proof", 95, 11), ("RiddleMill$Proof", 98, 38), ("RiddleMill$Code", 9, 39), ("RiddleMill$Proof", 101, 40), ("RiddleMill$Proof", 105, 41), ("RiddleMill$Code", 15, 12), ("RiddleMill$Code", 18, 13), ("RiddleMill$Code", 21, 14), ("RiddleMill$Proof", 108, 42), ("RiddleMill$Proof", 111, 15), ("RiddleMill$Proof", 114, 12), ("RiddleMill$Proof", 117, 13), ("RiddleMill$Proof", 120, 14), ("RiddleMill$Proof", 123, 43), ("RiddleMill$Proof", 127, 27), ("RiddleMill$Proof", 58, 44), ("RiddleMillLaw", 81, 45), ("RiddleMillLaw", 85, 46), ("RiddleMillLaw", 89, 47), ("RiddleMillLaw", 99, 48), ("RiddleMill", 175, 49)]
set_option maxRecDepth 20000 in
theorem gTLo2 : ∀ e ∈ gTL2, Cond.methodLink e.1 e.2.1 (gMt e.2.2).1 ∈ gWS := List.forall_mem_cons.mpr ⟨gin 365 rfl rfl, List.forall_mem_cons.mpr ⟨gin 366 rfl rfl, List.forall_mem_cons.mpr ⟨gin 370 rfl rfl, List.forall_mem_cons.mpr ⟨gin 371 rfl rfl, List.forall_mem_cons.mpr ⟨gin 372 rfl rfl, List.forall_mem_cons.mpr ⟨gin 375 rfl rfl, List.forall_mem_cons.mpr ⟨gin 378 rfl rfl, List.forall_mem_cons.mpr ⟨gin 382 rfl rfl, List.forall_mem_cons.mpr ⟨gin 385 rfl rfl, List.forall_mem_cons.mpr ⟨gin 386 rfl rfl, List.forall_mem_cons.mpr ⟨gin 387 rfl rfl, List.forall_mem_cons.mpr ⟨gin 388 rfl rfl, List.forall_mem_cons.mpr ⟨gin 392 rfl rfl, List.forall_mem_cons.mpr ⟨gin 393 rfl rfl, List.forall_mem_cons.mpr ⟨gin 394 rfl rfl, List.forall_mem_cons.mpr ⟨gin 395 rfl rfl, List.forall_mem_cons.mpr ⟨gin 396 rfl rfl, List.forall_mem_cons.mpr ⟨gin 400 rfl rfl, List.forall_mem_cons.mpr ⟨gin 401 rfl rfl, List.forall_mem_cons.mpr ⟨gin 405 rfl rfl, List.forall_mem_cons.mpr ⟨gin 409 rfl rfl, List.forall_mem_cons.mpr ⟨gin 413 rfl rfl, List.forall_mem_cons.mpr ⟨gin 417 rfl rfl, List.forall_mem_cons.mpr ⟨gin 421 rfl rfl, fun _ h => absurd h List.not_mem_nil⟩⟩⟩⟩⟩⟩⟩⟩⟩⟩⟩⟩⟩⟩⟩⟩⟩⟩⟩⟩⟩⟩⟩⟩
def gTL3 : List (String × Nat × Nat) := [("RiddleMill$Speech", 29, 50), ("RiddleMill$Speech", 35, 51), ("RiddleMill$Speech", 39, 52), ("RiddleMillLaw", 104, 53), ("RiddleMill", 179, 54), ("RiddleMill$Speech", 48, 12), ("RiddleMill$Speech", 54, 55), ("RiddleMill$Speech", 58, 13), ("RiddleMill$Speech", 61, 14), ("RiddleMill$Speech", 64, 15), ("RiddleMill$Speech", 70, 16), ("RiddleMill$Speech", 73, 56), ("RiddleMill$Speech", 79, 57), ("RiddleMill$Speech", 86, 11), ("RiddleMillLaw", 108, 58), ("RiddleMillLaw", 112, 59), ("RiddleMill", 188, 60), ("RiddleMillLaw", 121, 61), ("RiddleMillLaw", 125, 62), ("RiddleMillLaw", 39, 63), ("RiddleMillLaw", 7, 64), ("RiddleMill", 65, 65), ("RiddleMill", 218, 39), ("RiddleMill", 221, 66)]
set_option maxRecDepth 20000 in
theorem gTLo3 : ∀ e ∈ gTL3, Cond.methodLink e.1 e.2.1 (gMt e.2.2).1 ∈ gWS := List.forall_mem_cons.mpr ⟨gin 425 rfl rfl, List.forall_mem_cons.mpr ⟨gin 430 rfl rfl, List.forall_mem_cons.mpr ⟨gin 435 rfl rfl, List.forall_mem_cons.mpr ⟨gin 439 rfl rfl, List.forall_mem_cons.mpr ⟨gin 443 rfl rfl, List.forall_mem_cons.mpr ⟨gin 447 rfl rfl, List.forall_mem_cons.mpr ⟨gin 448 rfl rfl, List.forall_mem_cons.mpr ⟨gin 452 rfl rfl, List.forall_mem_cons.mpr ⟨gin 453 rfl rfl, List.forall_mem_cons.mpr ⟨gin 454 rfl rfl, List.forall_mem_cons.mpr ⟨gin 455 rfl rfl, List.forall_mem_cons.mpr ⟨gin 456 rfl rfl, List.forall_mem_cons.mpr ⟨gin 461 rfl rfl, List.forall_mem_cons.mpr ⟨gin 467 rfl rfl, List.forall_mem_cons.mpr ⟨gin 469 rfl rfl, List.forall_mem_cons.mpr ⟨gin 473 rfl rfl, List.forall_mem_cons.mpr ⟨gin 477 rfl rfl, List.forall_mem_cons.mpr ⟨gin 481 rfl rfl, List.forall_mem_cons.mpr ⟨gin 485 rfl rfl, List.forall_mem_cons.mpr ⟨gin 489 rfl rfl, List.forall_mem_cons.mpr ⟨gin 497 rfl rfl, List.forall_mem_cons.mpr ⟨gin 501 rfl rfl, List.forall_mem_cons.mpr ⟨gin 505 rfl rfl, List.forall_mem_cons.mpr ⟨gin 506 rfl rfl, fun _ h => absurd h List.not_mem_nil⟩⟩⟩⟩⟩⟩⟩⟩⟩⟩⟩⟩⟩⟩⟩⟩⟩⟩⟩⟩⟩⟩⟩⟩
def gTL4 : List (String × Nat × Nat) := [("RiddleMill", 224, 67), ("java/lang/Throwable", 1, 1), ("RiddleMill", 73, 69), ("java/lang/IllegalArgumentException", 7, 70), ("java/lang/RuntimeException", 7, 71), ("java/lang/Exception", 7, 72), ("RiddleMill", 76, 73), ("RiddleMill", 82, 74), ("RiddleMill", 207, 75), ("RiddleMill", 214, 76), ("java/lang/IllegalStateException", 7, 70), ("RiddleMill", 215, 77), ("RiddleMillLaw", 17, 78), ("RiddleMill", 94, 79), ("java/lang/IndexOutOfBoundsException", 7, 70), ("RiddleMill", 95, 80), ("RiddleMill$ClueList", 19, 10), ("RiddleMillLaw", 23, 81), ("RiddleMill", 123, 82), ("RiddleMill$Worlds", 51, 2), ("RiddleMillLaw", 27, 83), ("RiddleMill", 133, 84), ("RiddleMillLaw", 31, 85), ("RiddleMill", 165, 86)]
set_option maxRecDepth 20000 in
theorem gTLo4 : ∀ e ∈ gTL4, Cond.methodLink e.1 e.2.1 (gMt e.2.2).1 ∈ gWS := List.forall_mem_cons.mpr ⟨gin 509 rfl rfl, List.forall_mem_cons.mpr ⟨gin 537 rfl rfl, List.forall_mem_cons.mpr ⟨gin 554 rfl rfl, List.forall_mem_cons.mpr ⟨gin 557 rfl rfl, List.forall_mem_cons.mpr ⟨gin 560 rfl rfl, List.forall_mem_cons.mpr ⟨gin 563 rfl rfl, List.forall_mem_cons.mpr ⟨gin 580 rfl rfl, List.forall_mem_cons.mpr ⟨gin 583 rfl rfl, List.forall_mem_cons.mpr ⟨gin 587 rfl rfl, List.forall_mem_cons.mpr ⟨gin 601 rfl rfl, List.forall_mem_cons.mpr ⟨gin 604 rfl rfl, List.forall_mem_cons.mpr ⟨gin 607 rfl rfl, List.forall_mem_cons.mpr ⟨gin 615 rfl rfl, List.forall_mem_cons.mpr ⟨gin 629 rfl rfl, List.forall_mem_cons.mpr ⟨gin 632 rfl rfl, List.forall_mem_cons.mpr ⟨gin 635 rfl rfl, List.forall_mem_cons.mpr ⟨gin 639 rfl rfl, List.forall_mem_cons.mpr ⟨gin 643 rfl rfl, List.forall_mem_cons.mpr ⟨gin 648 rfl rfl, List.forall_mem_cons.mpr ⟨gin 652 rfl rfl, List.forall_mem_cons.mpr ⟨gin 656 rfl rfl, List.forall_mem_cons.mpr ⟨gin 660 rfl rfl, List.forall_mem_cons.mpr ⟨gin 667 rfl rfl, List.forall_mem_cons.mpr ⟨gin 673 rfl rfl, fun _ h => absurd h List.not_mem_nil⟩⟩⟩⟩⟩⟩⟩⟩⟩⟩⟩⟩⟩⟩⟩⟩⟩⟩⟩⟩⟩⟩⟩⟩
def gTL5 : List (String × Nat × Nat) := [("RiddleMill$Maker", 36, 87), ("RiddleMill$Maker", 78, 30), ("RiddleMill$Maker", 84, 88), ("RiddleMill$Maker", 39, 89), ("RiddleMill$Maker", 88, 90), ("RiddleMill$Maker", 92, 91), ("RiddleMill$Maker", 100, 66), ("RiddleMill$Maker", 103, 67), ("RiddleMill$Maker", 107, 27), ("RiddleMill$Maker", 111, 73), ("RiddleMill$Maker", 96, 92), ("RiddleMill$Maker", 42, 93), ("RiddleMill$Maker", 51, 77), ("RiddleMill$Maker", 55, 84), ("RiddleMill$Maker", 61, 94), ("RiddleMill$Maker", 115, 80), ("RiddleMill$Maker", 65, 29), ("RiddleMill", 172, 95), ("RiddleMillLaw", 35, 96), ("RiddleMill", 192, 97), ("RiddleMill$Speech", 100, 98), ("RiddleMill$Speech", 108, 99), ("RiddleMill$Speech", 104, 100), ("RiddleMill$Speech", 129, 73)]
set_option maxRecDepth 20000 in
theorem gTLo5 : ∀ e ∈ gTL5, Cond.methodLink e.1 e.2.1 (gMt e.2.2).1 ∈ gWS := List.forall_mem_cons.mpr ⟨gin 677 rfl rfl, List.forall_mem_cons.mpr ⟨gin 681 rfl rfl, List.forall_mem_cons.mpr ⟨gin 682 rfl rfl, List.forall_mem_cons.mpr ⟨gin 688 rfl rfl, List.forall_mem_cons.mpr ⟨gin 692 rfl rfl, List.forall_mem_cons.mpr ⟨gin 696 rfl rfl, List.forall_mem_cons.mpr ⟨gin 700 rfl rfl, List.forall_mem_cons.mpr ⟨gin 701 rfl rfl, List.forall_mem_cons.mpr ⟨gin 702 rfl rfl, List.forall_mem_cons.mpr ⟨gin 703 rfl rfl, List.forall_mem_cons.mpr ⟨gin 704 rfl rfl, List.forall_mem_cons.mpr ⟨gin 707 rfl rfl, List.forall_mem_cons.mpr ⟨gin 711 rfl rfl, List.forall_mem_cons.mpr ⟨gin 712 rfl rfl, List.forall_mem_cons.mpr ⟨gin 713 rfl rfl, List.forall_mem_cons.mpr ⟨gin 717 rfl rfl, List.forall_mem_cons.mpr ⟨gin 718 rfl rfl, List.forall_mem_cons.mpr ⟨gin 719 rfl rfl, List.forall_mem_cons.mpr ⟨gin 729 rfl rfl, List.forall_mem_cons.mpr ⟨gin 733 rfl rfl, List.forall_mem_cons.mpr ⟨gin 737 rfl rfl, List.forall_mem_cons.mpr ⟨gin 741 rfl rfl, List.forall_mem_cons.mpr ⟨gin 747 rfl rfl, List.forall_mem_cons.mpr ⟨gin 751 rfl rfl, fun _ h => absurd h List.not_mem_nil⟩⟩⟩⟩⟩⟩⟩⟩⟩⟩⟩⟩⟩⟩⟩⟩⟩⟩⟩⟩⟩⟩⟩⟩
def gTL6 : List (String × Nat × Nat) := [("RiddleMill$Speech", 112, 101), ("RiddleMill$Speech", 123, 102), ("RiddleMillLaw", 50, 103), ("RiddleMillModel", 1, 1), ("RiddleMillLaw", 55, 104), ("RiddleMillLaw", 54, 105), ("RiddleMillModel", 104, 106), ("RiddleMillModel", 97, 107), ("RiddleMillModel", 108, 108), ("RiddleMillModel", 111, 109), ("RiddleMillLaw", 61, 110), ("RiddleMillModel", 115, 111), ("RiddleMillLaw", 65, 112), ("RiddleMillLaw", 69, 113), ("RiddleMillModel", 134, 114), ("RiddleMillModel", 138, 115), ("RiddleMillModel", 141, 116), ("RiddleMillModel", 131, 117), ("RiddleMillModel", 123, 118), ("RiddleMillModel", 127, 119), ("RiddleMillModel", 119, 120), ("RiddleMillModel", 144, 121), ("RiddleMillLaw", 73, 122), ("RiddleMillLaw", 76, 123)]
set_option maxRecDepth 20000 in
theorem gTLo6 : ∀ e ∈ gTL6, Cond.methodLink e.1 e.2.1 (gMt e.2.2).1 ∈ gWS := List.forall_mem_cons.mpr ⟨gin 752 rfl rfl, List.forall_mem_cons.mpr ⟨gin 756 rfl rfl, List.forall_mem_cons.mpr ⟨gin 764 rfl rfl, List.forall_mem_cons.mpr ⟨gin 767 rfl rfl, List.forall_mem_cons.mpr ⟨gin 883 rfl rfl, List.forall_mem_cons.mpr ⟨gin 887 rfl rfl, List.forall_mem_cons.mpr ⟨gin 891 rfl rfl, List.forall_mem_cons.mpr ⟨gin 895 rfl rfl, List.forall_mem_cons.mpr ⟨gin 899 rfl rfl, List.forall_mem_cons.mpr ⟨gin 903 rfl rfl, List.forall_mem_cons.mpr ⟨gin 907 rfl rfl, List.forall_mem_cons.mpr ⟨gin 911 rfl rfl, List.forall_mem_cons.mpr ⟨gin 915 rfl rfl, List.forall_mem_cons.mpr ⟨gin 919 rfl rfl, List.forall_mem_cons.mpr ⟨gin 923 rfl rfl, List.forall_mem_cons.mpr ⟨gin 927 rfl rfl, List.forall_mem_cons.mpr ⟨gin 931 rfl rfl, List.forall_mem_cons.mpr ⟨gin 935 rfl rfl, List.forall_mem_cons.mpr ⟨gin 939 rfl rfl, List.forall_mem_cons.mpr ⟨gin 942 rfl rfl, List.forall_mem_cons.mpr ⟨gin 946 rfl rfl, List.forall_mem_cons.mpr ⟨gin 950 rfl rfl, List.forall_mem_cons.mpr ⟨gin 953 rfl rfl, List.forall_mem_cons.mpr ⟨gin 957 rfl rfl, fun _ h => absurd h List.not_mem_nil⟩⟩⟩⟩⟩⟩⟩⟩⟩⟩⟩⟩⟩⟩⟩⟩⟩⟩⟩⟩⟩⟩⟩⟩
def gTL7 : List (String × Nat × Nat) := [("RiddleMillModel", 147, 124), ("RiddleMillLaw", 80, 125), ("RiddleMillModel", 196, 126), ("RiddleMillModel", 189, 127), ("RiddleMillModel", 193, 128), ("RiddleMillModel", 183, 129), ("RiddleMillModel", 186, 130), ("RiddleMillModel", 177, 131), ("RiddleMillModel", 160, 132), ("RiddleMillModel", 164, 133), ("RiddleMillModel", 167, 134), ("RiddleMillModel", 150, 135), ("RiddleMillModel", 170, 136), ("RiddleMillModel", 173, 137), ("RiddleMillModel", 153, 138), ("RiddleMillModel", 157, 139), ("RiddleMillLaw", 84, 140), ("RiddleMillLaw", 88, 141), ("RiddleMillLaw", 92, 142), ("RiddleMillModel", 202, 143), ("RiddleMillLaw", 96, 144), ("RiddleMillModel", 237, 145), ("RiddleMillModel", 224, 146), ("RiddleMillModel", 227, 147)]
set_option maxRecDepth 20000 in
theorem gTLo7 : ∀ e ∈ gTL7, Cond.methodLink e.1 e.2.1 (gMt e.2.2).1 ∈ gWS := List.forall_mem_cons.mpr ⟨gin 961 rfl rfl, List.forall_mem_cons.mpr ⟨gin 965 rfl rfl, List.forall_mem_cons.mpr ⟨gin 969 rfl rfl, List.forall_mem_cons.mpr ⟨gin 973 rfl rfl, List.forall_mem_cons.mpr ⟨gin 977 rfl rfl, List.forall_mem_cons.mpr ⟨gin 981 rfl rfl, List.forall_mem_cons.mpr ⟨gin 985 rfl rfl, List.forall_mem_cons.mpr ⟨gin 989 rfl rfl, List.forall_mem_cons.mpr ⟨gin 993 rfl rfl, List.forall_mem_cons.mpr ⟨gin 997 rfl rfl, List.forall_mem_cons.mpr ⟨gin 1001 rfl rfl, List.forall_mem_cons.mpr ⟨gin 1005 rfl rfl, List.forall_mem_cons.mpr ⟨gin 1008 rfl rfl, List.forall_mem_cons.mpr ⟨gin 1012 rfl rfl, List.forall_mem_cons.mpr ⟨gin 1016 rfl rfl, List.forall_mem_cons.mpr ⟨gin 1020 rfl rfl, List.forall_mem_cons.mpr ⟨gin 1023 rfl rfl, List.forall_mem_cons.mpr ⟨gin 1027 rfl rfl, List.forall_mem_cons.mpr ⟨gin 1031 rfl rfl, List.forall_mem_cons.mpr ⟨gin 1035 rfl rfl, List.forall_mem_cons.mpr ⟨gin 1039 rfl rfl, List.forall_mem_cons.mpr ⟨gin 1044 rfl rfl, List.forall_mem_cons.mpr ⟨gin 1048 rfl rfl, List.forall_mem_cons.mpr ⟨gin 1054 rfl rfl, fun _ h => absurd h List.not_mem_nil⟩⟩⟩⟩⟩⟩⟩⟩⟩⟩⟩⟩⟩⟩⟩⟩⟩⟩⟩⟩⟩⟩⟩⟩
def gTL8 : List (String × Nat × Nat) := [("RiddleMillModel", 230, 148), ("RiddleMillModel", 220, 149), ("RiddleMillModel", 216, 150), ("RiddleMillLaw", 103, 151), ("RiddleMillModel", 242, 152), ("RiddleMillLaw", 107, 153), ("RiddleMillModel", 257, 154), ("RiddleMillModel", 253, 155), ("RiddleMillModel", 260, 156), ("RiddleMillLaw", 111, 157), ("RiddleMillLaw", 116, 158), ("RiddleMillLaw", 120, 159), ("RiddleMillModel", 295, 160), ("RiddleMillModel", 275, 161), ("RiddleMillModel", 278, 162), ("RiddleMillModel", 305, 163), ("RiddleMillModel", 292, 164), ("RiddleMillModel", 282, 165), ("RiddleMillModel", 285, 166), ("RiddleMillModel", 302, 167), ("RiddleMillModel", 311, 168), ("RiddleMillModel", 328, 169), ("RiddleMillModel", 331, 105), ("RiddleMillLaw", 124, 170)]
set_option maxRecDepth 20000 in
theorem gTLo8 : ∀ e ∈ gTL8, Cond.methodLink e.1 e.2.1 (gMt e.2.2).1 ∈ gWS := List.forall_mem_cons.mpr ⟨gin 1058 rfl rfl, List.forall_mem_cons.mpr ⟨gin 1062 rfl rfl, List.forall_mem_cons.mpr ⟨gin 1066 rfl rfl, List.forall_mem_cons.mpr ⟨gin 1070 rfl rfl, List.forall_mem_cons.mpr ⟨gin 1074 rfl rfl, List.forall_mem_cons.mpr ⟨gin 1080 rfl rfl, List.forall_mem_cons.mpr ⟨gin 1084 rfl rfl, List.forall_mem_cons.mpr ⟨gin 1088 rfl rfl, List.forall_mem_cons.mpr ⟨gin 1092 rfl rfl, List.forall_mem_cons.mpr ⟨gin 1096 rfl rfl, List.forall_mem_cons.mpr ⟨gin 1100 rfl rfl, List.forall_mem_cons.mpr ⟨gin 1106 rfl rfl, List.forall_mem_cons.mpr ⟨gin 1111 rfl rfl, List.forall_mem_cons.mpr ⟨gin 1115 rfl rfl, List.forall_mem_cons.mpr ⟨gin 1119 rfl rfl, List.forall_mem_cons.mpr ⟨gin 1125 rfl rfl, List.forall_mem_cons.mpr ⟨gin 1129 rfl rfl, List.forall_mem_cons.mpr ⟨gin 1134 rfl rfl, List.forall_mem_cons.mpr ⟨gin 1138 rfl rfl, List.forall_mem_cons.mpr ⟨gin 1142 rfl rfl, List.forall_mem_cons.mpr ⟨gin 1146 rfl rfl, List.forall_mem_cons.mpr ⟨gin 1150 rfl rfl, List.forall_mem_cons.mpr ⟨gin 1154 rfl rfl, List.forall_mem_cons.mpr ⟨gin 1155 rfl rfl, fun _ h => absurd h List.not_mem_nil⟩⟩⟩⟩⟩⟩⟩⟩⟩⟩⟩⟩⟩⟩⟩⟩⟩⟩⟩⟩⟩⟩⟩⟩
def gTL9 : List (String × Nat × Nat) := [("RiddleMillLaw", 128, 171)]
set_option maxRecDepth 20000 in
theorem gTLo9 : ∀ e ∈ gTL9, Cond.methodLink e.1 e.2.1 (gMt e.2.2).1 ∈ gWS := List.forall_mem_cons.mpr ⟨gin 1159 rfl rfl, fun _ h => absurd h List.not_mem_nil⟩
def gTL : List (String × Nat × Nat) := gTL0 ++ gTL1 ++ gTL2 ++ gTL3 ++ gTL4 ++ gTL5 ++ gTL6 ++ gTL7 ++ gTL8 ++ gTL9
theorem gTL_ok : ∀ e ∈ gTL, Cond.methodLink e.1 e.2.1 (gMt e.2.2).1 ∈ gWS := by
  intro e he
  simp only [gTL, List.mem_append] at he
  rcases he with (((((((((h | h) | h) | h) | h) | h) | h) | h) | h) | h)
  · exact gTLo0 e h
  · exact gTLo1 e h
  · exact gTLo2 e h
  · exact gTLo3 e h
  · exact gTLo4 e h
  · exact gTLo5 e h
  · exact gTLo6 e h
  · exact gTLo7 e h
  · exact gTLo8 e h
  · exact gTLo9 e h
def gTn (own : String) (idx : Nat) : Option Nat := (gTL.find? (fun e => e.1 == own && e.2.1 == idx)).map (fun e => e.2.2)
theorem gTn_ok {own : String} {idx m : Nat} (h : gTn own idx = some m) : Cond.methodLink own idx (gMt m).1 ∈ gWS := by
  unfold gTn at h
  cases hf : gTL.find? (fun e => e.1 == own && e.2.1 == idx) with
  | none => rw [hf] at h; cases h
  | some e =>
    rw [hf] at h
    have h1 := List.find?_some hf
    have h2 := gTL_ok _ (List.mem_of_find?_eq_some hf)
    obtain ⟨a, b, c⟩ := e
    simp at h h1
    obtain ⟨rfl, rfl⟩ := h1
    subst h
    exact h2
def gMs (m : Nat) : Bool := ([2, 3, 11, 12, 13, 14, 15, 16, 24, 25, 27, 30, 38, 39, 41, 50, 51, 63, 66, 67, 73, 92, 118, 121, 135, 139, 152] : List Nat).contains m
theorem wg_W : Cond.fieldLink "RiddleMill$Speech" 45 "RiddleMill$Speech" "WORDS" "[J" ∈ gWS := gin 433 rfl rfl
theorem wg_F : Cond.fieldLink "RiddleMill$Speech" 83 "RiddleMill$Speech" "FORMS" "[J" ∈ gWS := gin 465 rfl rfl
abbrev gSG : Type := Nat × Nat × Nat × (Nat → Nat) × Nat × Nat × (Nat → Int32)
abbrev gG : Type := va_G × List (ClassId × FieldType) × gSG
def gsz (g : gG) : Nat := g.2.2.1
def gtW (g : gG) : Nat := g.2.2.2.1
def gtF (g : gG) : Nat := g.2.2.2.2.1
def gsa (g : gG) : Nat → Nat := g.2.2.2.2.2.1
def gsb (g : gG) : Nat := g.2.2.2.2.2.2.1
def gsL (g : gG) : Nat := g.2.2.2.2.2.2.2.1
def gsx (g : gG) : Nat → Int32 := g.2.2.2.2.2.2.2.2
def wdL : List Int64 := [26995, 7237492, 1818584692, 1852143732, 28518, 29807, 1718775661, 27696098611389806, 6385252, 24948, 28530, 111503598970226, 504363246962, 26990, 1935767923]
def fmL : List Int64 := [1, 26995, 2, 0, 0, 0, 0, 1, 26995, 7237492, 2, 0, 0, 0, 1, 26995, 1818584692, 28518, 2, 0, 0, 1, 26995, 1852143732, 29807, 2, 0, 0, 1, 26995, 4, 1718775661, 2, 0, 0, 1, 26995, 27696098611389806, 2, 6385252, 3, 0, 1, 26995, 24948, 4, 0, 0, 0, 1, 26995, 2, 28530, 3, 0, 0, 1, 26995, 111503598970226, 2, 28530, 3, 0, 1, 26995, 504363246962, 2, 26990, 4, 0]
def wdF (j : Nat) : Int64 := wdL.getD j 0
def fmF (j : Nat) : Int64 := fmL.getD j 0
def gStr : List (Nat × String) := [(71, "the clue is not as told"), (212, "there are 30 clues, or there is one just like it"), (92, "there is no such clue"), (121, "the limit is below 0"), (163, "no such seed or rating"), (196, "the line is no sentence")]
def gNo (s : State) : Prop := ∀ a b : ClassId, s.vm.findClass "java/lang/IllegalStateException" = some a → s.vm.findClass "java/lang/IllegalArgumentException" = some b → s.vm.assignable a b = false
theorem gNo.moved {s U : State} (hvm : s.vm.Alike U.vm) (h : gNo s) : gNo U := fun a b h1 h2 => by
  rw [hvm.assignable]
  rw [hvm.findClass] at h1 h2
  exact h a b h1 h2
def gSt (g : gG) (A : Nat → Prop) (s : State) : Prop := (gsz g ≤ s.heap.size ∧ gtW g < gsz g ∧ gtF g < gsz g ∧ gsb g < gsz g) ∧ (va_Z "RiddleMill$Speech" "WORDS" "[J" (.ref (gtW g)) A s s.heap ∧ va_T .long (gtW g) 15 (fun j => .long (wdF j)) A s s.heap) ∧ (va_Z "RiddleMill$Speech" "FORMS" "[J" (.ref (gtF g)) A s s.heap ∧ va_T .long (gtF g) 70 (fun j => .long (fmF j)) A s s.heap) ∧ va_T .int (gsb g) (gsL g) (fun j => .int (gsx g j)) A s s.heap ∧ (∀ e ∈ gStr, vk_R "RiddleMill" e.1 e.2 (gsa g e.1) s) ∧ (va_Zq "java/lang/Throwable" "UNASSIGNED_STACK" "[Ljava/lang/StackTraceElement;" A s s.heap ∧ va_Zq "java/lang/Throwable" "SUPPRESSED_SENTINEL" "Ljava/util/List;" A s s.heap) ∧ gNo s
theorem gSt.go {g : gG} {A B : Nat → Prop} {s U : State} (h : gSt g A s) (hz : s.heap.size ≤ U.heap.size) (hvm : s.vm.Alike U.vm) (hq : ∀ q : Nat, q < s.heap.size → ¬ A q → U.heap[q]? = s.heap[q]?) (hAB : ∀ q, B q → A q) (hv : ∀ (o : String) (k : Nat) (x : String) (a : Nat), vk_R o k x a s → vk_R o k x a U) : gSt g B U :=
  ⟨⟨Nat.le_trans h.1.1 hz, h.1.2⟩, ⟨((h.2.1.1.moved hvm).kept hq).narrow hAB, ((h.2.1.2.moved hvm).kept hq).narrow hAB⟩, ⟨((h.2.2.1.1.moved hvm).kept hq).narrow hAB, ((h.2.2.1.2.moved hvm).kept hq).narrow hAB⟩, ((h.2.2.2.1.moved hvm).kept hq).narrow hAB, fun e he => hv _ _ _ _ (h.2.2.2.2.1 e he), ⟨((h.2.2.2.2.2.1.1.moved hvm).kept hq).narrow hAB, ((h.2.2.2.2.2.1.2.moved hvm).kept hq).narrow hAB⟩, gNo.moved hvm h.2.2.2.2.2.2⟩
-- lemmas for the evaluator: which field a pool number is
theorem gF_CL_9 : gF "RiddleMill$ClueList" 9 = some (0, 0) := by decide +kernel
theorem gF_RM_99 : gF "RiddleMill" 99 = some (0, 0) := by decide +kernel
theorem gF_WO_89 : gF "RiddleMill$Worlds" 89 = some (0, 0) := by decide +kernel
theorem gF_PR_89 : gF "RiddleMill$Proof" 89 = some (0, 0) := by decide +kernel
theorem gF_CL_15 : gF "RiddleMill$ClueList" 15 = some (0, 1) := by decide +kernel
theorem gF_MA_45 : gF "RiddleMill$Maker" 45 = some (0, 1) := by decide +kernel
theorem gF_WO_84 : gF "RiddleMill$Worlds" 84 = some (0, 1) := by decide +kernel
theorem gF_PR_84 : gF "RiddleMill$Proof" 84 = some (0, 1) := by decide +kernel
theorem gF_RM_204 : gF "RiddleMill" 204 = some (0, 1) := by decide +kernel
theorem gF_WO_30 : gF "RiddleMill$Worlds" 30 = some (4, 0) := by decide +kernel
theorem gF_WO_34 : gF "RiddleMill$Worlds" 34 = some (4, 1) := by decide +kernel
theorem gF_WO_9 : gF "RiddleMill$Worlds" 9 = some (4, 2) := by decide +kernel
theorem gF_WO_15 : gF "RiddleMill$Worlds" 15 = some (4, 3) := by decide +kernel
theorem gF_WO_18 : gF "RiddleMill$Worlds" 18 = some (4, 4) := by decide +kernel
theorem gF_WO_21 : gF "RiddleMill$Worlds" 21 = some (4, 5) := by decide +kernel
theorem gF_WO_24 : gF "RiddleMill$Worlds" 24 = some (4, 6) := by decide +kernel
theorem gF_WO_27 : gF "RiddleMill$Worlds" 27 = some (4, 7) := by decide +kernel
theorem gF_WO_41 : gF "RiddleMill$Worlds" 41 = some (4, 8) := by decide +kernel
theorem gF_WO_57 : gF "RiddleMill$Worlds" 57 = some (4, 9) := by decide +kernel
theorem gF_WO_63 : gF "RiddleMill$Worlds" 63 = some (4, 10) := by decide +kernel
theorem gF_WO_48 : gF "RiddleMill$Worlds" 48 = some (4, 11) := by decide +kernel
theorem gF_WO_60 : gF "RiddleMill$Worlds" 60 = some (4, 12) := by decide +kernel
theorem gF_WO_66 : gF "RiddleMill$Worlds" 66 = some (4, 13) := by decide +kernel
theorem gF_WO_80 : gF "RiddleMill$Worlds" 80 = some (4, 14) := by decide +kernel
theorem gF_PR_27 : gF "RiddleMill$Proof" 27 = some (2, 0) := by decide +kernel
theorem gF_PR_31 : gF "RiddleMill$Proof" 31 = some (2, 1) := by decide +kernel
theorem gF_PR_9 : gF "RiddleMill$Proof" 9 = some (2, 2) := by decide +kernel
theorem gF_RM_156 : gF "RiddleMill" 156 = some (2, 2) := by decide +kernel
theorem gF_PR_15 : gF "RiddleMill$Proof" 15 = some (2, 3) := by decide +kernel
theorem gF_RM_144 : gF "RiddleMill" 144 = some (2, 3) := by decide +kernel
theorem gF_PR_18 : gF "RiddleMill$Proof" 18 = some (2, 4) := by decide +kernel
theorem gF_RM_147 : gF "RiddleMill" 147 = some (2, 4) := by decide +kernel
theorem gF_PR_21 : gF "RiddleMill$Proof" 21 = some (2, 5) := by decide +kernel
theorem gF_RM_150 : gF "RiddleMill" 150 = some (2, 5) := by decide +kernel
theorem gF_PR_24 : gF "RiddleMill$Proof" 24 = some (2, 6) := by decide +kernel
theorem gF_RM_153 : gF "RiddleMill" 153 = some (2, 6) := by decide +kernel
theorem gF_PR_34 : gF "RiddleMill$Proof" 34 = some (2, 7) := by decide +kernel
theorem gF_RM_141 : gF "RiddleMill" 141 = some (2, 7) := by decide +kernel
theorem gF_PR_37 : gF "RiddleMill$Proof" 37 = some (2, 8) := by decide +kernel
theorem gF_MA_71 : gF "RiddleMill$Maker" 71 = some (2, 8) := by decide +kernel
theorem gF_RM_159 : gF "RiddleMill" 159 = some (2, 8) := by decide +kernel
theorem gF_PR_40 : gF "RiddleMill$Proof" 40 = some (2, 9) := by decide +kernel
theorem gF_MA_25 : gF "RiddleMill$Maker" 25 = some (1, 0) := by decide +kernel
theorem gF_MA_29 : gF "RiddleMill$Maker" 29 = some (1, 1) := by decide +kernel
theorem gF_MA_9 : gF "RiddleMill$Maker" 9 = some (1, 2) := by decide +kernel
theorem gF_MA_15 : gF "RiddleMill$Maker" 15 = some (1, 3) := by decide +kernel
theorem gF_MA_48 : gF "RiddleMill$Maker" 48 = some (1, 4) := by decide +kernel
theorem gF_MA_32 : gF "RiddleMill$Maker" 32 = some (1, 5) := by decide +kernel
theorem gF_MA_21 : gF "RiddleMill$Maker" 21 = some (1, 6) := by decide +kernel
theorem gF_RM_169 : gF "RiddleMill" 169 = some (1, 6) := by decide +kernel
theorem gF_SP_9 : gF "RiddleMill$Speech" 9 = some (3, 0) := by decide +kernel
theorem gF_SP_15 : gF "RiddleMill$Speech" 15 = some (3, 1) := by decide +kernel
theorem gF_SP_91 : gF "RiddleMill$Speech" 91 = some (3, 2) := by decide +kernel
theorem gF_SP_19 : gF "RiddleMill$Speech" 19 = some (3, 3) := by decide +kernel
theorem gF_RM_185 : gF "RiddleMill" 185 = some (3, 3) := by decide +kernel
theorem gF_SP_67 : gF "RiddleMill$Speech" 67 = some (3, 4) := by decide +kernel
theorem gF_RM_182 : gF "RiddleMill" 182 = some (3, 4) := by decide +kernel
theorem gF_SP_22 : gF "RiddleMill$Speech" 22 = some (3, 5) := by decide +kernel
theorem gF_RM_201 : gF "RiddleMill" 201 = some (3, 5) := by decide +kernel
theorem gF_SP_133 : gF "RiddleMill$Speech" 133 = some (3, 6) := by decide +kernel
theorem gF_RM_198 : gF "RiddleMill" 198 = some (3, 6) := by decide +kernel
theorem gF_SP_26 : gF "RiddleMill$Speech" 26 = some (3, 7) := by decide +kernel
theorem gF_SP_97 : gF "RiddleMill$Speech" 97 = some (3, 8) := by decide +kernel
theorem gF_SP_116 : gF "RiddleMill$Speech" 116 = some (3, 9) := by decide +kernel
theorem gF_SP_94 : gF "RiddleMill$Speech" 94 = some (3, 10) := by decide +kernel
theorem gF_RM_16 : gF "RiddleMill" 16 = some (5, 0) := by decide +kernel
theorem gF_RM_22 : gF "RiddleMill" 22 = some (5, 1) := by decide +kernel
theorem gF_RM_28 : gF "RiddleMill" 28 = some (5, 2) := by decide +kernel
theorem gF_RM_37 : gF "RiddleMill" 37 = some (5, 3) := by decide +kernel
theorem gF_RM_44 : gF "RiddleMill" 44 = some (5, 4) := by decide +kernel
theorem gF_RM_48 : gF "RiddleMill" 48 = some (5, 5) := by decide +kernel
theorem gF_RM_54 : gF "RiddleMill" 54 = some (5, 6) := by decide +kernel
theorem gF_RM_61 : gF "RiddleMill" 61 = some (5, 7) := by decide +kernel
theorem gF_RF_39 : gF "RiddleMillModel" 39 = some (6, 0) := by decide +kernel
theorem gF_RF_94 : gF "RiddleMillModel" 94 = some (6, 1) := by decide +kernel
theorem gF_RF_85 : gF "RiddleMillModel" 85 = some (6, 2) := by decide +kernel
theorem gF_RF_88 : gF "RiddleMillModel" 88 = some (6, 3) := by decide +kernel
theorem gF_RF_91 : gF "RiddleMillModel" 91 = some (6, 4) := by decide +kernel
theorem gF_RF_43 : gF "RiddleMillModel" 43 = some (6, 5) := by decide +kernel
theorem gF_RF_101 : gF "RiddleMillModel" 101 = some (6, 6) := by decide +kernel
theorem gF_RF_234 : gF "RiddleMillModel" 234 = some (6, 7) := by decide +kernel
theorem gF_RF_47 : gF "RiddleMillModel" 47 = some (6, 8) := by decide +kernel
theorem gF_RF_50 : gF "RiddleMillModel" 50 = some (6, 9) := by decide +kernel
theorem gF_RF_53 : gF "RiddleMillModel" 53 = some (6, 10) := by decide +kernel
theorem gF_RF_180 : gF "RiddleMillModel" 180 = some (6, 11) := by decide +kernel
theorem gF_RF_199 : gF "RiddleMillModel" 199 = some (6, 12) := by decide +kernel
theorem gF_RF_56 : gF "RiddleMillModel" 56 = some (6, 13) := by decide +kernel
theorem gF_RF_59 : gF "RiddleMillModel" 59 = some (6, 14) := by decide +kernel
theorem gF_RF_62 : gF "RiddleMillModel" 62 = some (6, 15) := by decide +kernel
theorem gF_RF_65 : gF "RiddleMillModel" 65 = some (6, 16) := by decide +kernel
theorem gF_RF_68 : gF "RiddleMillModel" 68 = some (6, 17) := by decide +kernel
theorem gF_RF_71 : gF "RiddleMillModel" 71 = some (6, 18) := by decide +kernel
theorem gF_RF_75 : gF "RiddleMillModel" 75 = some (6, 19) := by decide +kernel
theorem gF_RF_250 : gF "RiddleMillModel" 250 = some (6, 20) := by decide +kernel
theorem gF_RF_267 : gF "RiddleMillModel" 267 = some (6, 21) := by decide +kernel
theorem gF_RF_78 : gF "RiddleMillModel" 78 = some (6, 22) := by decide +kernel
theorem gF_RF_270 : gF "RiddleMillModel" 270 = some (6, 23) := by decide +kernel
theorem gF_RF_213 : gF "RiddleMillModel" 213 = some (6, 24) := by decide +kernel
theorem gF_RF_82 : gF "RiddleMillModel" 82 = some (6, 25) := by decide +kernel
theorem gF_RF_207 : gF "RiddleMillModel" 207 = some (6, 26) := by decide +kernel
theorem gF_RF_299 : gF "RiddleMillModel" 299 = some (6, 27) := by decide +kernel
theorem gF_RF_325 : gF "RiddleMillModel" 325 = some (6, 28) := by decide +kernel
theorem gF_RF_314 : gF "RiddleMillModel" 314 = some (6, 29) := by decide +kernel
theorem gF_RF_317 : gF "RiddleMillModel" 317 = some (6, 30) := by decide +kernel
theorem gF_RF_308 : gF "RiddleMillModel" 308 = some (6, 31) := by decide +kernel
theorem gF_RF_320 : gF "RiddleMillModel" 320 = some (6, 32) := by decide +kernel
