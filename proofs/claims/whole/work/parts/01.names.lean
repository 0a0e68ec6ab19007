/-! names: classes, fields, methods, the words that serve all methods; written by a program out of the tables and javap's listing -/
def R_L : String := "GuessingHeapLaw"
def R_G : String := "GuessingHeap"
def R_M : String := "GuessingHeapModel"
def R_A : String := "java/util/Arrays"
def F_G : u_T := fun k => match k with
  | 0 => ("GuessingHeap", "roots", "[I", true)
  | 1 => ("GuessingHeap", "kinds", "[I", true)
  | 2 => ("GuessingHeap", "doubtful", "[Z", true)
  | 3 => ("GuessingHeap", "words", "[I", true)
  | 4 => ("GuessingHeap", "starts", "[I", true)
  | 5 => ("GuessingHeap", "lengths", "[I", true)
  | 6 => ("GuessingHeap", "unread", "[Z", true)
  | 7 => ("GuessingHeap", "marked", "[Z", true)
  | 8 => ("GuessingHeap", "found", "[I", true)
  | 9 => ("GuessingHeap", "foundCount", "I", false)
  | 10 => ("GuessingHeap", "objectCount", "I", false)
  | _ => ("GuessingHeap", "collectionCount", "I", false)
def t_G : Nat → FieldType := fun k => match k with
  | 0 => .array .int
  | 1 => .array .int
  | 2 => .array .boolean
  | 3 => .array .int
  | 4 => .array .int
  | 5 => .array .int
  | 6 => .array .boolean
  | 7 => .array .boolean
  | 8 => .array .int
  | 9 => .int
  | 10 => .int
  | _ => .int
theorem n_G_ne : ∀ a, a < 12 → ∀ b, b < 12 → a ≠ b → (F_G a).2.1 ≠ (F_G b).2.1 := by decide +kernel
theorem t_G_ok : ∀ k, k < 12 → parseFieldDescriptor (F_G k).2.2.1 = some (t_G k) := by decide +kernel
def F_M : u_T := fun k => match k with
  | 0 => ("GuessingHeapModel", "thrown", "I", false)
  | 1 => ("GuessingHeapModel", "roots", "[I", false)
  | 2 => ("GuessingHeapModel", "word", "[I", false)
  | 3 => ("GuessingHeapModel", "of", "[I", false)
  | 4 => ("GuessingHeapModel", "many", "[I", false)
  | 5 => ("GuessingHeapModel", "quiet", "[Z", false)
  | 6 => ("GuessingHeapModel", "marked", "[Z", false)
  | 7 => ("GuessingHeapModel", "kind", "[I", false)
  | 8 => ("GuessingHeapModel", "doubtful", "[Z", false)
  | 9 => ("GuessingHeapModel", "collected", "I", false)
  | _ => ("GuessingHeapModel", "given", "I", false)
def t_M : Nat → FieldType := fun k => match k with
  | 0 => .int
  | 1 => .array .int
  | 2 => .array .int
  | 3 => .array .int
  | 4 => .array .int
  | 5 => .array .boolean
  | 6 => .array .boolean
  | 7 => .array .int
  | 8 => .array .boolean
  | 9 => .int
  | _ => .int
theorem n_M_ne : ∀ a, a < 11 → ∀ b, b < 11 → a ≠ b → (F_M a).2.1 ≠ (F_M b).2.1 := by decide +kernel
theorem t_M_ok : ∀ k, k < 11 → parseFieldDescriptor (F_M k).2.2.1 = some (t_M k) := by decide +kernel
abbrev cl_all : List vw_C := [(R_G, F_G, 12), (R_M, F_M, 11)]
abbrev b_G_init : ByteArray := prog_1_method_1_code
def y_G_init : MethodName := ⟨R_G, "<init>", "()V"⟩
abbrev b_A_fill1 : ByteArray := prog_20_method_103_code
def y_A_fill1 : MethodName := ⟨R_A, "fill", "([II)V"⟩
abbrev b_G_collect : ByteArray := prog_1_method_7_code
def y_G_collect : MethodName := ⟨R_G, "collect", "()I"⟩
abbrev b_G_collectNow : ByteArray := prog_1_method_31_code
def y_G_collectNow : MethodName := ⟨R_G, "collectNow", "()I"⟩
abbrev b_G_forgetMarks : ByteArray := prog_1_method_32_code
def y_G_forgetMarks : MethodName := ⟨R_G, "forgetMarks", "()V"⟩
abbrev b_G_lookAtRoots : ByteArray := prog_1_method_33_code
def y_G_lookAtRoots : MethodName := ⟨R_G, "lookAtRoots", "()V"⟩
abbrev b_G_lookAt : ByteArray := prog_1_method_36_code
def y_G_lookAt : MethodName := ⟨R_G, "lookAt", "(I)V"⟩
abbrev b_G_isAddress : ByteArray := prog_1_method_15_code
def y_G_isAddress : MethodName := ⟨R_G, "isAddress", "(I)Z"⟩
abbrev b_G_startAt : ByteArray := prog_1_method_19_code
def y_G_startAt : MethodName := ⟨R_G, "startAt", "(I)I"⟩
abbrev b_G_mark : ByteArray := prog_1_method_37_code
def y_G_mark : MethodName := ⟨R_G, "mark", "(I)V"⟩
abbrev b_G_lookAtMarkedObjects : ByteArray := prog_1_method_34_code
def y_G_lookAtMarkedObjects : MethodName := ⟨R_G, "lookAtMarkedObjects", "()V"⟩
abbrev b_G_lookAtWords : ByteArray := prog_1_method_35_code
def y_G_lookAtWords : MethodName := ⟨R_G, "lookAtWords", "(II)V"⟩
abbrev b_G_giveUpUnmarkedObjects : ByteArray := prog_1_method_38_code
def y_G_giveUpUnmarkedObjects : MethodName := ⟨R_G, "giveUpUnmarkedObjects", "()V"⟩
abbrev b_G_giveUp : ByteArray := prog_1_method_39_code
def y_G_giveUp : MethodName := ⟨R_G, "giveUp", "(II)V"⟩
abbrev b_A_fill3 : ByteArray := prog_20_method_104_code
def y_A_fill3 : MethodName := ⟨R_A, "fill", "([IIII)V"⟩
abbrev b_A_rangeCheck : ByteArray := prog_20_method_30_code
def y_A_rangeCheck : MethodName := ⟨R_A, "rangeCheck", "(III)V"⟩
abbrev b_G_freeBlocksWithoutObjects : ByteArray := prog_1_method_40_code
def y_G_freeBlocksWithoutObjects : MethodName := ⟨R_G, "freeBlocksWithoutObjects", "()V"⟩
abbrev b_G_wordsInNoObject : ByteArray := prog_1_method_21_code
def y_G_wordsInNoObject : MethodName := ⟨R_G, "wordsInNoObject", "(I)I"⟩
abbrev b_G_base : ByteArray := prog_1_method_8_code
def y_G_base : MethodName := ⟨R_G, "base", "(I)I"⟩
abbrev b_G_size : ByteArray := prog_1_method_9_code
def y_G_size : MethodName := ⟨R_G, "size", "(I)I"⟩
abbrev b_G_silent : ByteArray := prog_1_method_10_code
def y_G_silent : MethodName := ⟨R_G, "silent", "(I)Z"⟩
abbrev b_G_block : ByteArray := prog_1_method_11_code
def y_G_block : MethodName := ⟨R_G, "block", "(I)I"⟩
abbrev b_G_isBlock : ByteArray := prog_1_method_16_code
def y_G_isBlock : MethodName := ⟨R_G, "isBlock", "(I)Z"⟩
abbrev b_G_empty : ByteArray := prog_1_method_12_code
def y_G_empty : MethodName := ⟨R_G, "empty", "(I)I"⟩
abbrev b_G_isSplit : ByteArray := prog_1_method_20_code
def y_G_isSplit : MethodName := ⟨R_G, "isSplit", "(I)Z"⟩
abbrev b_G_objects : ByteArray := prog_1_method_13_code
def y_G_objects : MethodName := ⟨R_G, "objects", "()I"⟩
abbrev b_G_collections : ByteArray := prog_1_method_14_code
def y_G_collections : MethodName := ⟨R_G, "collections", "()I"⟩
abbrev b_L_allocate : ByteArray := method_3_code
def y_L_allocate : MethodName := ⟨R_L, "allocate", "(LGuessingHeap;IZ[J)I"⟩
abbrev b_G_allocate : ByteArray := prog_1_method_2_code
def y_G_allocate : MethodName := ⟨R_G, "allocate", "(IZ)I"⟩
abbrev b_G_findRoom : ByteArray := prog_1_method_24_code
def y_G_findRoom : MethodName := ⟨R_G, "findRoom", "(IZ)I"⟩
abbrev b_G_blocksFor : ByteArray := prog_1_method_23_code
def y_G_blocksFor : MethodName := ⟨R_G, "blocksFor", "(I)I"⟩
abbrev b_G_findBlocks : ByteArray := prog_1_method_26_code
def y_G_findBlocks : MethodName := ⟨R_G, "findBlocks", "(IZ)I"⟩
abbrev b_G_slotSize : ByteArray := prog_1_method_22_code
def y_G_slotSize : MethodName := ⟨R_G, "slotSize", "(I)I"⟩
abbrev b_G_findEmptySlot : ByteArray := prog_1_method_25_code
def y_G_findEmptySlot : MethodName := ⟨R_G, "findEmptySlot", "(I)I"⟩
abbrev b_G_placeSmall : ByteArray := prog_1_method_27_code
def y_G_placeSmall : MethodName := ⟨R_G, "placeSmall", "(IIZ)V"⟩
abbrev b_G_takeBlock : ByteArray := prog_1_method_29_code
def y_G_takeBlock : MethodName := ⟨R_G, "takeBlock", "(II)V"⟩
abbrev b_G_placeObject : ByteArray := prog_1_method_30_code
def y_G_placeObject : MethodName := ⟨R_G, "placeObject", "(IIZ)V"⟩
abbrev b_G_placeLarge : ByteArray := prog_1_method_28_code
def y_G_placeLarge : MethodName := ⟨R_G, "placeLarge", "(IIZ)V"⟩
abbrev b_L_root : ByteArray := method_4_code
def y_L_root : MethodName := ⟨R_L, "root", "(LGuessingHeap;II)I"⟩
abbrev b_G_root : ByteArray := prog_1_method_3_code
def y_G_root : MethodName := ⟨R_G, "root", "(II)V"⟩
abbrev b_G_checkRoot : ByteArray := prog_1_method_17_code
def y_G_checkRoot : MethodName := ⟨R_G, "checkRoot", "(I)V"⟩
abbrev b_L_rooted : ByteArray := method_5_code
def y_L_rooted : MethodName := ⟨R_L, "rooted", "(LGuessingHeap;I[J)I"⟩
abbrev b_G_rooted : ByteArray := prog_1_method_4_code
def y_G_rooted : MethodName := ⟨R_G, "rooted", "(I)I"⟩
abbrev b_L_read : ByteArray := method_6_code
def y_L_read : MethodName := ⟨R_L, "read", "(LGuessingHeap;I[J)I"⟩
abbrev b_G_read : ByteArray := prog_1_method_5_code
def y_G_read : MethodName := ⟨R_G, "read", "(I)I"⟩
abbrev b_G_checkInObject : ByteArray := prog_1_method_18_code
def y_G_checkInObject : MethodName := ⟨R_G, "checkInObject", "(I)V"⟩
abbrev b_L_write : ByteArray := method_7_code
def y_L_write : MethodName := ⟨R_L, "write", "(LGuessingHeap;II[J)I"⟩
abbrev b_G_write : ByteArray := prog_1_method_6_code
def y_G_write : MethodName := ⟨R_G, "write", "(II)I"⟩
abbrev b_M_init : ByteArray := prog_3_method_1_code
def y_M_init : MethodName := ⟨R_M, "<init>", "()V"⟩
abbrev b_M_thrown : ByteArray := prog_3_method_2_code
def y_M_thrown : MethodName := ⟨R_M, "thrown", "()I"⟩
abbrev b_M_allocate : ByteArray := prog_3_method_16_code
def y_M_allocate : MethodName := ⟨R_M, "allocate", "(IZ)I"⟩
abbrev b_M_room : ByteArray := prog_3_method_14_code
def y_M_room : MethodName := ⟨R_M, "room", "(IZ)I"⟩
abbrev b_M_sizeFor : ByteArray := prog_3_method_11_code
def y_M_sizeFor : MethodName := ⟨R_M, "sizeFor", "(I)I"⟩
abbrev b_M_smallRoom : ByteArray := prog_3_method_12_code
def y_M_smallRoom : MethodName := ⟨R_M, "smallRoom", "(IZ)I"⟩
abbrev b_M_isOpen : ByteArray := prog_3_method_10_code
def y_M_isOpen : MethodName := ⟨R_M, "isOpen", "(IZ)Z"⟩
abbrev b_M_largeRoom : ByteArray := prog_3_method_13_code
def y_M_largeRoom : MethodName := ⟨R_M, "largeRoom", "(IZ)I"⟩
abbrev b_M_gather : ByteArray := prog_3_method_9_code
def y_M_gather : MethodName := ⟨R_M, "gather", "()V"⟩
abbrev b_M_lookAtAll : ByteArray := prog_3_method_6_code
def y_M_lookAtAll : MethodName := ⟨R_M, "lookAtAll", "()Z"⟩
abbrev b_M_look : ByteArray := prog_3_method_5_code
def y_M_look : MethodName := ⟨R_M, "look", "(I)Z"⟩
abbrev b_M_isAddress : ByteArray := prog_3_method_3_code
def y_M_isAddress : MethodName := ⟨R_M, "isAddress", "(I)Z"⟩
abbrev b_M_objectAt : ByteArray := prog_3_method_4_code
def y_M_objectAt : MethodName := ⟨R_M, "objectAt", "(I)I"⟩
abbrev b_M_giveUp : ByteArray := prog_3_method_7_code
def y_M_giveUp : MethodName := ⟨R_M, "giveUp", "(I)V"⟩
abbrev b_M_isBare : ByteArray := prog_3_method_8_code
def y_M_isBare : MethodName := ⟨R_M, "isBare", "(I)Z"⟩
abbrev b_M_settle : ByteArray := prog_3_method_15_code
def y_M_settle : MethodName := ⟨R_M, "settle", "(IIZ)V"⟩
abbrev b_M_collect : ByteArray := prog_3_method_17_code
def y_M_collect : MethodName := ⟨R_M, "collect", "()I"⟩
abbrev b_M_root : ByteArray := prog_3_method_18_code
def y_M_root : MethodName := ⟨R_M, "root", "(II)V"⟩
abbrev b_M_rooted : ByteArray := prog_3_method_19_code
def y_M_rooted : MethodName := ⟨R_M, "rooted", "(I)I"⟩
abbrev b_M_read : ByteArray := prog_3_method_21_code
def y_M_read : MethodName := ⟨R_M, "read", "(I)I"⟩
abbrev b_M_bar : ByteArray := prog_3_method_20_code
def y_M_bar : MethodName := ⟨R_M, "bar", "(I)I"⟩
abbrev b_M_write : ByteArray := prog_3_method_22_code
def y_M_write : MethodName := ⟨R_M, "write", "(II)I"⟩
abbrev b_M_base : ByteArray := prog_3_method_23_code
def y_M_base : MethodName := ⟨R_M, "base", "(I)I"⟩
abbrev b_M_size : ByteArray := prog_3_method_24_code
def y_M_size : MethodName := ⟨R_M, "size", "(I)I"⟩
abbrev b_M_silent : ByteArray := prog_3_method_25_code
def y_M_silent : MethodName := ⟨R_M, "silent", "(I)Z"⟩
abbrev b_M_block : ByteArray := prog_3_method_26_code
def y_M_block : MethodName := ⟨R_M, "block", "(I)I"⟩
abbrev b_M_empty : ByteArray := prog_3_method_27_code
def y_M_empty : MethodName := ⟨R_M, "empty", "(I)I"⟩
abbrev b_M_objects : ByteArray := prog_3_method_28_code
def y_M_objects : MethodName := ⟨R_M, "objects", "()I"⟩
abbrev b_M_collections : ByteArray := prog_3_method_29_code
def y_M_collections : MethodName := ⟨R_M, "collections", "()I"⟩
def wa_0 : List Cond := [.selects R_G y_G_collectNow y_G_collectNow, .selects R_G y_G_forgetMarks y_G_forgetMarks, .selects R_G y_G_lookAtRoots y_G_lookAtRoots, .selects R_G y_G_lookAt y_G_lookAt, .selects R_G y_G_startAt y_G_startAt, .selects R_G y_G_mark y_G_mark, .selects R_G y_G_lookAtMarkedObjects y_G_lookAtMarkedObjects, .selects R_G y_G_lookAtWords y_G_lookAtWords, .selects R_G y_G_giveUpUnmarkedObjects y_G_giveUpUnmarkedObjects, .selects R_G y_G_giveUp y_G_giveUp, .selects R_G y_G_freeBlocksWithoutObjects y_G_freeBlocksWithoutObjects, .selects R_G y_G_wordsInNoObject y_G_wordsInNoObject, .selects R_G y_G_isSplit y_G_isSplit, .selects R_G y_G_findRoom y_G_findRoom, .selects R_G y_G_findBlocks y_G_findBlocks, .selects R_G y_G_findEmptySlot y_G_findEmptySlot, .selects R_G y_G_placeSmall y_G_placeSmall, .selects R_G y_G_takeBlock y_G_takeBlock, .selects R_G y_G_placeObject y_G_placeObject, .selects R_G y_G_placeLarge y_G_placeLarge, .selects R_G y_G_checkInObject y_G_checkInObject, .selects R_M y_M_room y_M_room, .selects R_M y_M_smallRoom y_M_smallRoom, .selects R_M y_M_isOpen y_M_isOpen, .selects R_M y_M_largeRoom y_M_largeRoom, .selects R_M y_M_gather y_M_gather, .selects R_M y_M_lookAtAll y_M_lookAtAll, .selects R_M y_M_look y_M_look, .selects R_M y_M_objectAt y_M_objectAt, .selects R_M y_M_giveUp y_M_giveUp, .selects R_M y_M_isBare y_M_isBare, .selects R_M y_M_settle y_M_settle, .selects R_M y_M_bar y_M_bar, .initialized R_L, .initialized R_G, .initialized R_A, .initialized R_M, .initialized "java/lang/Throwable", .initialized "java/lang/Exception", .initialized "java/lang/RuntimeException"]
def wa_1 : List Cond := [.initialized "java/lang/IllegalArgumentException", .initialized "java/lang/System", .initialized "java/lang/IndexOutOfBoundsException", .initialized "java/lang/IllegalStateException", .classLink R_L 8 R_G, .instantiable R_G 12, .methodLink R_L 34 y_G_init, .instanceMethod y_G_init, .code y_G_init prog_1_method_1_code 1 none, .methodLink R_G 3 objectInit, .instanceMethod objectInit, .code objectInit object_method_1_code 1 none, .methodLink R_G 48 y_A_fill1, .static y_A_fill1, .code y_A_fill1 prog_20_method_103_code 4 none, .fieldLink R_G 9 R_G "roots" "[I", .fieldLink R_G 13 R_G "kinds" "[I", .fieldLink R_G 16 R_G "doubtful" "[Z", .fieldLink R_G 20 R_G "words" "[I", .fieldLink R_G 23 R_G "starts" "[I", .fieldLink R_G 26 R_G "lengths" "[I", .fieldLink R_G 29 R_G "unread" "[Z", .fieldLink R_G 32 R_G "marked" "[Z", .fieldLink R_G 35 R_G "found" "[I", .fieldLink R_G 38 R_G "foundCount" "I", .fieldLink R_G 42 R_G "objectCount" "I", .fieldLink R_G 45 R_G "collectionCount" "I", .laysFinal R_G R_G "roots" "[I", .soleField R_G "roots", .laysFinal R_G R_G "kinds" "[I", .soleField R_G "kinds", .laysFinal R_G R_G "doubtful" "[Z", .soleField R_G "doubtful", .laysFinal R_G R_G "words" "[I", .soleField R_G "words", .laysFinal R_G R_G "starts" "[I", .soleField R_G "starts", .laysFinal R_G R_G "lengths" "[I", .soleField R_G "lengths", .laysFinal R_G R_G "unread" "[Z"]
def wa_2 : List Cond := [.soleField R_G "unread", .laysFinal R_G R_G "marked" "[Z", .soleField R_G "marked", .laysFinal R_G R_G "found" "[I", .soleField R_G "found", .lays R_G R_G "foundCount" "I", .soleField R_G "foundCount", .lays R_G R_G "objectCount" "I", .soleField R_G "objectCount", .lays R_G R_G "collectionCount" "I", .soleField R_G "collectionCount", .superclass R_G "java/lang/Object", .arrayClass .int, .arrayClass .boolean, .methodLink R_L 63 y_G_collect, .instanceMethod y_G_collect, .selects R_G y_G_collect y_G_collect, .code y_G_collect prog_1_method_7_code 1 (some .int), .methodLink R_G 65 y_G_collectNow, .instanceMethod y_G_collectNow, .code y_G_collectNow prog_1_method_31_code 2 (some .int), .methodLink R_G 136 y_G_forgetMarks, .instanceMethod y_G_forgetMarks, .code y_G_forgetMarks prog_1_method_32_code 2 none, .methodLink R_G 139 y_G_lookAtRoots, .instanceMethod y_G_lookAtRoots, .code y_G_lookAtRoots prog_1_method_33_code 2 none, .methodLink R_G 151 y_G_lookAt, .instanceMethod y_G_lookAt, .code y_G_lookAt prog_1_method_36_code 4 none, .methodLink R_G 113 y_G_isAddress, .static y_G_isAddress, .code y_G_isAddress prog_1_method_15_code 1 (some .boolean), .methodLink R_G 95 y_G_startAt, .instanceMethod y_G_startAt, .code y_G_startAt prog_1_method_19_code 2 (some .int), .methodLink R_G 157 y_G_mark, .instanceMethod y_G_mark, .code y_G_mark prog_1_method_37_code 2 none, .methodLink R_G 142 y_G_lookAtMarkedObjects]
def wa_3 : List Cond := [.instanceMethod y_G_lookAtMarkedObjects, .code y_G_lookAtMarkedObjects prog_1_method_34_code 3 none, .methodLink R_G 154 y_G_lookAtWords, .instanceMethod y_G_lookAtWords, .code y_G_lookAtWords prog_1_method_35_code 4 none, .methodLink R_G 145 y_G_giveUpUnmarkedObjects, .instanceMethod y_G_giveUpUnmarkedObjects, .code y_G_giveUpUnmarkedObjects prog_1_method_38_code 2 none, .methodLink R_G 160 y_G_giveUp, .instanceMethod y_G_giveUp, .code y_G_giveUp prog_1_method_39_code 3 none, .methodLink R_G 133 y_A_fill3, .static y_A_fill3, .code y_A_fill3 prog_20_method_104_code 5 none, .methodLink R_A 13 y_A_rangeCheck, .static y_A_rangeCheck, .code y_A_rangeCheck prog_20_method_30_code 3 none, .classLink R_A 43 "java/lang/IllegalArgumentException", .instantiable "java/lang/IllegalArgumentException" 6, .selects "java/lang/IllegalArgumentException" ⟨"java/lang/Throwable", "fillInStackTrace", "(I)Ljava/lang/Throwable;"⟩ ⟨"java/lang/Throwable", "fillInStackTrace", "(I)Ljava/lang/Throwable;"⟩, .selects "java/lang/IllegalArgumentException" ⟨"java/lang/Throwable", "fillInStackTrace", "()Ljava/lang/Throwable;"⟩ ⟨"java/lang/Throwable", "fillInStackTrace", "()Ljava/lang/Throwable;"⟩, .lays "java/lang/IllegalArgumentException" "java/lang/Throwable" "cause" "Ljava/lang/Throwable;", .lays "java/lang/Throwable" "java/lang/Throwable" "cause" "Ljava/lang/Throwable;", .lays "java/lang/IllegalArgumentException" "java/lang/Throwable" "stackTrace" "[Ljava/lang/StackTraceElement;", .lays "java/lang/Throwable" "java/lang/Throwable" "stackTrace" "[Ljava/lang/StackTraceElement;", .lays "java/lang/IllegalArgumentException" "java/lang/Throwable" "suppressedExceptions" "Ljava/util/List;", .lays "java/lang/Throwable" "java/lang/Throwable" "suppressedExceptions" "Ljava/util/List;", .lays "java/lang/IllegalArgumentException" "java/lang/Throwable" "detailMessage" "Ljava/lang/String;", .lays "java/lang/Throwable" "java/lang/Throwable" "detailMessage" "Ljava/lang/String;", .lays "java/lang/IllegalArgumentException" "java/lang/Throwable" "backtrace" "Ljava/lang/Object;", .lays "java/lang/Throwable" "java/lang/Throwable" "backtrace" "Ljava/lang/Object;", .fieldLink "java/lang/Throwable" 198 "java/lang/Throwable" "backtrace" "Ljava/lang/Object;", .superclass "java/lang/Throwable" "java/lang/Object", .instanceMethod ⟨"java/lang/Throwable", "<init>", "()V"⟩, .code ⟨"java/lang/Throwable", "<init>", "()V"⟩ prog_19_method_1_code 1 none, .methodLink "java/lang/Throwable" 1 objectInit, .fieldLink "java/lang/Throwable" 13 "java/lang/Throwable" "UNASSIGNED_STACK" "[Ljava/lang/StackTraceElement;", .fieldLink "java/lang/Throwable" 20 "java/lang/Throwable" "SUPPRESSED_SENTINEL" "Ljava/util/List;", .methodLink "java/lang/Throwable" 27 ⟨"java/lang/Throwable", "fillInStackTrace", "()Ljava/lang/Throwable;"⟩, .instanceMethod ⟨"java/lang/Throwable", "fillInStackTrace", "()Ljava/lang/Throwable;"⟩]
def wa_4 : List Cond := [.sameMethod "java/lang/Throwable" "java/lang/Throwable" "fillInStackTrace" "()Ljava/lang/Throwable;", .selects "java/lang/IllegalStateException" ⟨"java/lang/Throwable", "fillInStackTrace", "()Ljava/lang/Throwable;"⟩ ⟨"java/lang/Throwable", "fillInStackTrace", "()Ljava/lang/Throwable;"⟩, .selects "java/lang/IndexOutOfBoundsException" ⟨"java/lang/Throwable", "fillInStackTrace", "()Ljava/lang/Throwable;"⟩ ⟨"java/lang/Throwable", "fillInStackTrace", "()Ljava/lang/Throwable;"⟩, .codeSync ⟨"java/lang/Throwable", "fillInStackTrace", "()Ljava/lang/Throwable;"⟩ prog_19_method_18_code 1 (some (.object "java/lang/Throwable")), .methodLink "java/lang/Throwable" 202 ⟨"java/lang/Throwable", "fillInStackTrace", "(I)Ljava/lang/Throwable;"⟩, .instanceMethod ⟨"java/lang/Throwable", "fillInStackTrace", "(I)Ljava/lang/Throwable;"⟩, .instantiable "java/lang/Throwable" 6, .native ⟨"java/lang/Throwable", "fillInStackTrace", "(I)Ljava/lang/Throwable;"⟩, .arrayClass .byte, .native ⟨"java/lang/Object", "clone", "()Ljava/lang/Object;"⟩, .instanceMethod ⟨"java/lang/Object", "clone", "()Ljava/lang/Object;"⟩, .methodLink R_A 343 ⟨R_A, "checkLength", "(II)V"⟩, .static ⟨R_A, "checkLength", "(II)V"⟩, .code ⟨R_A, "checkLength", "(II)V"⟩ prog_20_method_131_code 2 none, .methodLink R_A 65 ⟨"java/lang/IllegalArgumentException", "<init>", "(Ljava/lang/String;)V"⟩, .instanceMethod ⟨"java/lang/IllegalArgumentException", "<init>", "(Ljava/lang/String;)V"⟩, .code ⟨"java/lang/IllegalArgumentException", "<init>", "(Ljava/lang/String;)V"⟩ prog_8_method_2_code 2 none, .methodLink "java/lang/IllegalArgumentException" 7 ⟨"java/lang/RuntimeException", "<init>", "(Ljava/lang/String;)V"⟩, .instanceMethod ⟨"java/lang/RuntimeException", "<init>", "(Ljava/lang/String;)V"⟩, .code ⟨"java/lang/RuntimeException", "<init>", "(Ljava/lang/String;)V"⟩ prog_13_method_2_code 2 none, .methodLink "java/lang/RuntimeException" 7 ⟨"java/lang/Exception", "<init>", "(Ljava/lang/String;)V"⟩, .instanceMethod ⟨"java/lang/Exception", "<init>", "(Ljava/lang/String;)V"⟩, .code ⟨"java/lang/Exception", "<init>", "(Ljava/lang/String;)V"⟩ prog_7_method_2_code 2 none, .methodLink "java/lang/Exception" 7 ⟨"java/lang/Throwable", "<init>", "(Ljava/lang/String;)V"⟩, .instanceMethod ⟨"java/lang/Throwable", "<init>", "(Ljava/lang/String;)V"⟩, .code ⟨"java/lang/Throwable", "<init>", "(Ljava/lang/String;)V"⟩ prog_19_method_2_code 2 none, .fieldLink "java/lang/Throwable" 198 "java/lang/Throwable" "backtrace" "Ljava/lang/Object;", .fieldLink "java/lang/Throwable" 31 "java/lang/Throwable" "detailMessage" "Ljava/lang/String;", .fieldLink "java/lang/Throwable" 7 "java/lang/Throwable" "cause" "Ljava/lang/Throwable;", .fieldLink "java/lang/Throwable" 17 "java/lang/Throwable" "stackTrace" "[Ljava/lang/StackTraceElement;", .fieldLink "java/lang/Throwable" 24 "java/lang/Throwable" "suppressedExceptions" "Ljava/util/List;", .soleField "java/lang/Throwable" "backtrace", .soleField "java/lang/Throwable" "detailMessage", .soleField "java/lang/Throwable" "cause", .soleField "java/lang/Throwable" "stackTrace", .lays "java/lang/IllegalArgumentException" "java/lang/Throwable" "depth" "I", .soleField "java/lang/Throwable" "depth", .soleField "java/lang/Throwable" "suppressedExceptions", .superclass "java/lang/IllegalArgumentException" "java/lang/RuntimeException", .instanceMethod ⟨"java/lang/IndexOutOfBoundsException", "<init>", "(Ljava/lang/String;)V"⟩]
def wa_5 : List Cond := [.code ⟨"java/lang/IndexOutOfBoundsException", "<init>", "(Ljava/lang/String;)V"⟩ prog_10_method_2_code 2 none, .methodLink "java/lang/IndexOutOfBoundsException" 7 ⟨"java/lang/RuntimeException", "<init>", "(Ljava/lang/String;)V"⟩, .methodLink R_G 148 y_G_freeBlocksWithoutObjects, .instanceMethod y_G_freeBlocksWithoutObjects, .code y_G_freeBlocksWithoutObjects prog_1_method_40_code 2 none, .methodLink R_G 105 y_G_wordsInNoObject, .instanceMethod y_G_wordsInNoObject, .code y_G_wordsInNoObject prog_1_method_21_code 4 (some .int), .methodLink R_L 67 y_G_base, .instanceMethod y_G_base, .selects R_G y_G_base y_G_base, .code y_G_base prog_1_method_8_code 3 (some .int), .methodLink R_L 71 y_G_size, .instanceMethod y_G_size, .selects R_G y_G_size y_G_size, .code y_G_size prog_1_method_9_code 3 (some .int), .methodLink R_L 75 y_G_silent, .instanceMethod y_G_silent, .selects R_G y_G_silent y_G_silent, .code y_G_silent prog_1_method_10_code 3 (some .boolean), .methodLink R_L 80 y_G_block, .instanceMethod y_G_block, .selects R_G y_G_block y_G_block, .code y_G_block prog_1_method_11_code 2 (some .int), .methodLink R_G 98 y_G_isBlock, .static y_G_isBlock, .code y_G_isBlock prog_1_method_16_code 1 (some .boolean), .methodLink R_L 84 y_G_empty, .instanceMethod y_G_empty, .selects R_G y_G_empty y_G_empty, .code y_G_empty prog_1_method_12_code 2 (some .int), .methodLink R_G 102 y_G_isSplit, .instanceMethod y_G_isSplit, .code y_G_isSplit prog_1_method_20_code 2 (some .boolean), .methodLink R_L 88 y_G_objects, .instanceMethod y_G_objects, .selects R_G y_G_objects y_G_objects, .code y_G_objects prog_1_method_13_code 1 (some .int), .methodLink R_L 92 y_G_collections, .instanceMethod y_G_collections]
def wa_6 : List Cond := [.selects R_G y_G_collections y_G_collections, .code y_G_collections prog_1_method_14_code 1 (some .int), .methodLink R_L 38 y_L_allocate, .static y_L_allocate, .codeWith y_L_allocate method_3_code 5 (some .int) [(0, 10, 13, 13), (0, 10, 17, 15)], .classLink R_L 13 "java/lang/IllegalArgumentException", .classLink R_L 15 "java/lang/IllegalStateException", .methodLink R_L 7 y_G_allocate, .instanceMethod y_G_allocate, .selects R_G y_G_allocate y_G_allocate, .code y_G_allocate prog_1_method_2_code 4 (some .int), .classLink R_G 54 "java/lang/IllegalArgumentException", .methodLink R_G 58 ⟨"java/lang/IllegalArgumentException", "<init>", "(Ljava/lang/String;)V"⟩, .methodLink R_G 61 y_G_findRoom, .instanceMethod y_G_findRoom, .code y_G_findRoom prog_1_method_24_code 4 (some .int), .methodLink R_G 82 y_G_blocksFor, .static y_G_blocksFor, .code y_G_blocksFor prog_1_method_23_code 1 (some .int), .methodLink R_G 120 y_G_findBlocks, .instanceMethod y_G_findBlocks, .code y_G_findBlocks prog_1_method_26_code 6 (some .int), .methodLink R_G 74 y_G_slotSize, .static y_G_slotSize, .code y_G_slotSize prog_1_method_22_code 2 (some .int), .methodLink R_G 123 y_G_findEmptySlot, .instanceMethod y_G_findEmptySlot, .code y_G_findEmptySlot prog_1_method_25_code 3 (some .int), .classLink R_G 69 "java/lang/IllegalStateException", .instantiable "java/lang/IllegalStateException" 6, .selects "java/lang/IllegalStateException" ⟨"java/lang/Throwable", "fillInStackTrace", "(I)Ljava/lang/Throwable;"⟩ ⟨"java/lang/Throwable", "fillInStackTrace", "(I)Ljava/lang/Throwable;"⟩, .lays "java/lang/IllegalStateException" "java/lang/Throwable" "cause" "Ljava/lang/Throwable;", .lays "java/lang/IllegalStateException" "java/lang/Throwable" "stackTrace" "[Ljava/lang/StackTraceElement;", .lays "java/lang/IllegalStateException" "java/lang/Throwable" "suppressedExceptions" "Ljava/util/List;", .lays "java/lang/IllegalStateException" "java/lang/Throwable" "detailMessage" "Ljava/lang/String;", .lays "java/lang/IllegalStateException" "java/lang/Throwable" "backtrace" "Ljava/lang/Object;", .methodLink R_G 73 ⟨"java/lang/IllegalStateException", "<init>", "(Ljava/lang/String;)V"⟩, .instanceMethod ⟨"java/lang/IllegalStateException", "<init>", "(Ljava/lang/String;)V"⟩, .code ⟨"java/lang/IllegalStateException", "<init>", "(Ljava/lang/String;)V"⟩ prog_9_method_2_code 2 none, .methodLink "java/lang/IllegalStateException" 7 ⟨"java/lang/RuntimeException", "<init>", "(Ljava/lang/String;)V"⟩]
def wa_7 : List Cond := [.lays "java/lang/IllegalStateException" "java/lang/Throwable" "depth" "I", .superclass "java/lang/IllegalStateException" "java/lang/RuntimeException", .methodLink R_G 78 y_G_placeSmall, .instanceMethod y_G_placeSmall, .code y_G_placeSmall prog_1_method_27_code 4 none, .methodLink R_G 126 y_G_takeBlock, .instanceMethod y_G_takeBlock, .code y_G_takeBlock prog_1_method_29_code 3 none, .methodLink R_G 130 y_G_placeObject, .instanceMethod y_G_placeObject, .code y_G_placeObject prog_1_method_30_code 4 none, .methodLink R_G 85 y_G_placeLarge, .instanceMethod y_G_placeLarge, .code y_G_placeLarge prog_1_method_28_code 6 none, .methodLink R_L 48 y_L_root, .static y_L_root, .codeWith y_L_root method_4_code 4 (some .int) [(0, 6, 9, 21)], .classLink R_L 21 "java/lang/IndexOutOfBoundsException", .methodLink R_L 17 y_G_root, .instanceMethod y_G_root, .selects R_G y_G_root y_G_root, .code y_G_root prog_1_method_3_code 3 none, .methodLink R_G 88 y_G_checkRoot, .static y_G_checkRoot, .code y_G_checkRoot prog_1_method_17_code 1 none, .classLink R_G 108 "java/lang/IndexOutOfBoundsException", .instantiable "java/lang/IndexOutOfBoundsException" 6, .selects "java/lang/IndexOutOfBoundsException" ⟨"java/lang/Throwable", "fillInStackTrace", "(I)Ljava/lang/Throwable;"⟩ ⟨"java/lang/Throwable", "fillInStackTrace", "(I)Ljava/lang/Throwable;"⟩, .lays "java/lang/IndexOutOfBoundsException" "java/lang/Throwable" "cause" "Ljava/lang/Throwable;", .lays "java/lang/IndexOutOfBoundsException" "java/lang/Throwable" "stackTrace" "[Ljava/lang/StackTraceElement;", .lays "java/lang/IndexOutOfBoundsException" "java/lang/Throwable" "suppressedExceptions" "Ljava/util/List;", .lays "java/lang/IndexOutOfBoundsException" "java/lang/Throwable" "detailMessage" "Ljava/lang/String;", .lays "java/lang/IndexOutOfBoundsException" "java/lang/Throwable" "backtrace" "Ljava/lang/Object;", .methodLink R_G 112 ⟨"java/lang/IndexOutOfBoundsException", "<init>", "(Ljava/lang/String;)V"⟩, .lays "java/lang/IndexOutOfBoundsException" "java/lang/Throwable" "depth" "I", .superclass "java/lang/IndexOutOfBoundsException" "java/lang/RuntimeException", .methodLink R_L 52 y_L_rooted, .static y_L_rooted, .codeWith y_L_rooted method_5_code 4 (some .int) [(0, 9, 12, 21)], .methodLink R_L 23 y_G_rooted]
def wa_8 : List Cond := [.instanceMethod y_G_rooted, .selects R_G y_G_rooted y_G_rooted, .code y_G_rooted prog_1_method_4_code 2 (some .int), .methodLink R_L 56 y_L_read, .static y_L_read, .codeWith y_L_read method_6_code 4 (some .int) [(0, 9, 12, 21), (0, 9, 15, 15)], .methodLink R_L 27 y_G_read, .instanceMethod y_G_read, .selects R_G y_G_read y_G_read, .code y_G_read prog_1_method_5_code 2 (some .int), .methodLink R_G 92 y_G_checkInObject, .instanceMethod y_G_checkInObject, .code y_G_checkInObject prog_1_method_18_code 2 none, .methodLink R_L 59 y_L_write, .static y_L_write, .codeWith y_L_write method_7_code 5 (some .int) [(0, 10, 13, 21), (0, 10, 17, 15)], .methodLink R_L 30 y_G_write, .instanceMethod y_G_write, .selects R_G y_G_write y_G_write, .code y_G_write prog_1_method_6_code 4 (some .int), .classLink R_L 35 R_M, .instantiable R_M 11, .methodLink R_L 37 y_M_init, .instanceMethod y_M_init, .code y_M_init prog_3_method_1_code 1 none, .methodLink R_M 1 objectInit, .fieldLink R_M 35 R_M "thrown" "I", .fieldLink R_M 7 R_M "roots" "[I", .fieldLink R_M 13 R_M "word" "[I", .fieldLink R_M 16 R_M "of" "[I", .fieldLink R_M 19 R_M "many" "[I", .fieldLink R_M 22 R_M "quiet" "[Z", .fieldLink R_M 26 R_M "marked" "[Z", .fieldLink R_M 29 R_M "kind" "[I", .fieldLink R_M 32 R_M "doubtful" "[Z", .fieldLink R_M 53 R_M "collected" "I", .fieldLink R_M 50 R_M "given" "I", .lays R_M R_M "thrown" "I", .soleField R_M "thrown", .lays R_M R_M "roots" "[I"]
def wa_9 : List Cond := [.soleField R_M "roots", .lays R_M R_M "word" "[I", .soleField R_M "word", .lays R_M R_M "of" "[I", .soleField R_M "of", .lays R_M R_M "many" "[I", .soleField R_M "many", .lays R_M R_M "quiet" "[Z", .soleField R_M "quiet", .lays R_M R_M "marked" "[Z", .soleField R_M "marked", .lays R_M R_M "kind" "[I", .soleField R_M "kind", .lays R_M R_M "doubtful" "[Z", .soleField R_M "doubtful", .lays R_M R_M "collected" "I", .soleField R_M "collected", .lays R_M R_M "given" "I", .soleField R_M "given", .superclass R_M "java/lang/Object", .methodLink R_L 44 y_M_thrown, .instanceMethod y_M_thrown, .selects R_M y_M_thrown y_M_thrown, .code y_M_thrown prog_3_method_2_code 1 (some .int), .methodLink R_L 43 y_M_allocate, .instanceMethod y_M_allocate, .selects R_M y_M_allocate y_M_allocate, .code y_M_allocate prog_3_method_16_code 4 (some .int), .methodLink R_M 81 y_M_room, .instanceMethod y_M_room, .code y_M_room prog_3_method_14_code 3 (some .int), .methodLink R_M 71 y_M_sizeFor, .static y_M_sizeFor, .code y_M_sizeFor prog_3_method_11_code 1 (some .int), .methodLink R_M 74 y_M_smallRoom, .instanceMethod y_M_smallRoom, .code y_M_smallRoom prog_3_method_12_code 4 (some .int), .methodLink R_M 67 y_M_isOpen, .instanceMethod y_M_isOpen, .code y_M_isOpen prog_3_method_10_code 3 (some .boolean)]
def wa_10 : List Cond := [.methodLink R_M 78 y_M_largeRoom, .instanceMethod y_M_largeRoom, .code y_M_largeRoom prog_3_method_13_code 6 (some .int), .methodLink R_M 84 y_M_gather, .instanceMethod y_M_gather, .code y_M_gather prog_3_method_9_code 3 none, .methodLink R_M 56 y_M_lookAtAll, .instanceMethod y_M_lookAtAll, .code y_M_lookAtAll prog_3_method_6_code 5 (some .boolean), .methodLink R_M 47 y_M_look, .instanceMethod y_M_look, .code y_M_look prog_3_method_5_code 4 (some .boolean), .methodLink R_M 39 y_M_isAddress, .static y_M_isAddress, .code y_M_isAddress prog_3_method_3_code 1 (some .boolean), .methodLink R_M 43 y_M_objectAt, .instanceMethod y_M_objectAt, .code y_M_objectAt prog_3_method_4_code 2 (some .int), .methodLink R_M 60 y_M_giveUp, .instanceMethod y_M_giveUp, .code y_M_giveUp prog_3_method_7_code 4 none, .methodLink R_M 64 y_M_isBare, .instanceMethod y_M_isBare, .code y_M_isBare prog_3_method_8_code 4 (some .boolean), .methodLink R_M 87 y_M_settle, .instanceMethod y_M_settle, .code y_M_settle prog_3_method_15_code 6 none, .methodLink R_L 66 y_M_collect, .instanceMethod y_M_collect, .selects R_M y_M_collect y_M_collect, .code y_M_collect prog_3_method_17_code 1 (some .int), .methodLink R_L 51 y_M_root, .instanceMethod y_M_root, .selects R_M y_M_root y_M_root, .code y_M_root prog_3_method_18_code 3 none, .methodLink R_L 55 y_M_rooted, .instanceMethod y_M_rooted, .selects R_M y_M_rooted y_M_rooted, .code y_M_rooted prog_3_method_19_code 2 (some .int), .methodLink R_L 58 y_M_read]
def wa_11 : List Cond := [.instanceMethod y_M_read, .selects R_M y_M_read y_M_read, .code y_M_read prog_3_method_21_code 2 (some .int), .methodLink R_M 91 y_M_bar, .instanceMethod y_M_bar, .code y_M_bar prog_3_method_20_code 2 (some .int), .methodLink R_L 62 y_M_write, .instanceMethod y_M_write, .selects R_M y_M_write y_M_write, .code y_M_write prog_3_method_22_code 4 (some .int), .methodLink R_L 70 y_M_base, .instanceMethod y_M_base, .selects R_M y_M_base y_M_base, .code y_M_base prog_3_method_23_code 3 (some .int), .methodLink R_L 74 y_M_size, .instanceMethod y_M_size, .selects R_M y_M_size y_M_size, .code y_M_size prog_3_method_24_code 3 (some .int), .methodLink R_L 79 y_M_silent, .instanceMethod y_M_silent, .selects R_M y_M_silent y_M_silent, .code y_M_silent prog_3_method_25_code 3 (some .boolean), .methodLink R_L 83 y_M_block, .instanceMethod y_M_block, .selects R_M y_M_block y_M_block, .code y_M_block prog_3_method_26_code 2 (some .int), .methodLink R_L 87 y_M_empty, .instanceMethod y_M_empty, .selects R_M y_M_empty y_M_empty, .code y_M_empty prog_3_method_27_code 4 (some .int), .methodLink R_L 91 y_M_objects, .instanceMethod y_M_objects, .selects R_M y_M_objects y_M_objects, .code y_M_objects prog_3_method_28_code 3 (some .int), .methodLink R_L 95 y_M_collections, .instanceMethod y_M_collections, .selects R_M y_M_collections y_M_collections, .code y_M_collections prog_3_method_29_code 1 (some .int), .arrayClass .long, .sameMethod "java/lang/Throwable" "java/lang/Throwable" "fillInStackTrace" "(I)Ljava/lang/Throwable;"]
def wa_all : List Cond := wa_0 ++ (wa_1 ++ (wa_2 ++ (wa_3 ++ (wa_4 ++ (wa_5 ++ (wa_6 ++ (wa_7 ++ (wa_8 ++ (wa_9 ++ (wa_10 ++ (wa_11)))))))))))
theorem wa_in0 {w : Cond} (h : w ∈ wa_0) : w ∈ wa_all := List.mem_append_left _ h
theorem wa_in1 {w : Cond} (h : w ∈ wa_1) : w ∈ wa_all := List.mem_append_right _ (List.mem_append_left _ h)
theorem wa_in2 {w : Cond} (h : w ∈ wa_2) : w ∈ wa_all := List.mem_append_right _ (List.mem_append_right _ (List.mem_append_left _ h))
theorem wa_in3 {w : Cond} (h : w ∈ wa_3) : w ∈ wa_all := List.mem_append_right _ (List.mem_append_right _ (List.mem_append_right _ (List.mem_append_left _ h)))
theorem wa_in4 {w : Cond} (h : w ∈ wa_4) : w ∈ wa_all := List.mem_append_right _ (List.mem_append_right _ (List.mem_append_right _ (List.mem_append_right _ (List.mem_append_left _ h))))
theorem wa_in5 {w : Cond} (h : w ∈ wa_5) : w ∈ wa_all := List.mem_append_right _ (List.mem_append_right _ (List.mem_append_right _ (List.mem_append_right _ (List.mem_append_right _ (List.mem_append_left _ h)))))
theorem wa_in6 {w : Cond} (h : w ∈ wa_6) : w ∈ wa_all := List.mem_append_right _ (List.mem_append_right _ (List.mem_append_right _ (List.mem_append_right _ (List.mem_append_right _ (List.mem_append_right _ (List.mem_append_left _ h))))))
theorem wa_in7 {w : Cond} (h : w ∈ wa_7) : w ∈ wa_all := List.mem_append_right _ (List.mem_append_right _ (List.mem_append_right _ (List.mem_append_right _ (List.mem_append_right _ (List.mem_append_right _ (List.mem_append_right _ (List.mem_append_left _ h)))))))
theorem wa_in8 {w : Cond} (h : w ∈ wa_8) : w ∈ wa_all := List.mem_append_right _ (List.mem_append_right _ (List.mem_append_right _ (List.mem_append_right _ (List.mem_append_right _ (List.mem_append_right _ (List.mem_append_right _ (List.mem_append_right _ (List.mem_append_left _ h))))))))
theorem wa_in9 {w : Cond} (h : w ∈ wa_9) : w ∈ wa_all := List.mem_append_right _ (List.mem_append_right _ (List.mem_append_right _ (List.mem_append_right _ (List.mem_append_right _ (List.mem_append_right _ (List.mem_append_right _ (List.mem_append_right _ (List.mem_append_right _ (List.mem_append_left _ h)))))))))
theorem wa_in10 {w : Cond} (h : w ∈ wa_10) : w ∈ wa_all := List.mem_append_right _ (List.mem_append_right _ (List.mem_append_right _ (List.mem_append_right _ (List.mem_append_right _ (List.mem_append_right _ (List.mem_append_right _ (List.mem_append_right _ (List.mem_append_right _ (List.mem_append_right _ (List.mem_append_left _ h))))))))))
theorem wa_in11 {w : Cond} (h : w ∈ wa_11) : w ∈ wa_all := List.mem_append_right _ (List.mem_append_right _ (List.mem_append_right _ (List.mem_append_right _ (List.mem_append_right _ (List.mem_append_right _ (List.mem_append_right _ (List.mem_append_right _ (List.mem_append_right _ (List.mem_append_right _ (List.mem_append_right _ (h)))))))))))
theorem wm_0 : (.selects R_G y_G_collectNow y_G_collectNow : Cond) ∈ wa_all := wa_in0 (List.mem_of_getElem? (i := 0) rfl)
theorem wm_1 : (.selects R_G y_G_forgetMarks y_G_forgetMarks : Cond) ∈ wa_all := wa_in0 (List.mem_of_getElem? (i := 1) rfl)
theorem wm_2 : (.selects R_G y_G_lookAtRoots y_G_lookAtRoots : Cond) ∈ wa_all := wa_in0 (List.mem_of_getElem? (i := 2) rfl)
theorem wm_3 : (.selects R_G y_G_lookAt y_G_lookAt : Cond) ∈ wa_all := wa_in0 (List.mem_of_getElem? (i := 3) rfl)
theorem wm_4 : (.selects R_G y_G_startAt y_G_startAt : Cond) ∈ wa_all := wa_in0 (List.mem_of_getElem? (i := 4) rfl)
theorem wm_5 : (.selects R_G y_G_mark y_G_mark : Cond) ∈ wa_all := wa_in0 (List.mem_of_getElem? (i := 5) rfl)
theorem wm_6 : (.selects R_G y_G_lookAtMarkedObjects y_G_lookAtMarkedObjects : Cond) ∈ wa_all := wa_in0 (List.mem_of_getElem? (i := 6) rfl)
theorem wm_7 : (.selects R_G y_G_lookAtWords y_G_lookAtWords : Cond) ∈ wa_all := wa_in0 (List.mem_of_getElem? (i := 7) rfl)
theorem wm_8 : (.selects R_G y_G_giveUpUnmarkedObjects y_G_giveUpUnmarkedObjects : Cond) ∈ wa_all := wa_in0 (List.mem_of_getElem? (i := 8) rfl)
theorem wm_9 : (.selects R_G y_G_giveUp y_G_giveUp : Cond) ∈ wa_all := wa_in0 (List.mem_of_getElem? (i := 9) rfl)
theorem wm_10 : (.selects R_G y_G_freeBlocksWithoutObjects y_G_freeBlocksWithoutObjects : Cond) ∈ wa_all := wa_in0 (List.mem_of_getElem? (i := 10) rfl)
theorem wm_11 : (.selects R_G y_G_wordsInNoObject y_G_wordsInNoObject : Cond) ∈ wa_all := wa_in0 (List.mem_of_getElem? (i := 11) rfl)
theorem wm_12 : (.selects R_G y_G_isSplit y_G_isSplit : Cond) ∈ wa_all := wa_in0 (List.mem_of_getElem? (i := 12) rfl)
theorem wm_13 : (.selects R_G y_G_findRoom y_G_findRoom : Cond) ∈ wa_all := wa_in0 (List.mem_of_getElem? (i := 13) rfl)
theorem wm_14 : (.selects R_G y_G_findBlocks y_G_findBlocks : Cond) ∈ wa_all := wa_in0 (List.mem_of_getElem? (i := 14) rfl)
theorem wm_15 : (.selects R_G y_G_findEmptySlot y_G_findEmptySlot : Cond) ∈ wa_all := wa_in0 (List.mem_of_getElem? (i := 15) rfl)
theorem wm_16 : (.selects R_G y_G_placeSmall y_G_placeSmall : Cond) ∈ wa_all := wa_in0 (List.mem_of_getElem? (i := 16) rfl)
theorem wm_17 : (.selects R_G y_G_takeBlock y_G_takeBlock : Cond) ∈ wa_all := wa_in0 (List.mem_of_getElem? (i := 17) rfl)
theorem wm_18 : (.selects R_G y_G_placeObject y_G_placeObject : Cond) ∈ wa_all := wa_in0 (List.mem_of_getElem? (i := 18) rfl)
theorem wm_19 : (.selects R_G y_G_placeLarge y_G_placeLarge : Cond) ∈ wa_all := wa_in0 (List.mem_of_getElem? (i := 19) rfl)
theorem wm_20 : (.selects R_G y_G_checkInObject y_G_checkInObject : Cond) ∈ wa_all := wa_in0 (List.mem_of_getElem? (i := 20) rfl)
theorem wm_21 : (.selects R_M y_M_room y_M_room : Cond) ∈ wa_all := wa_in0 (List.mem_of_getElem? (i := 21) rfl)
theorem wm_22 : (.selects R_M y_M_smallRoom y_M_smallRoom : Cond) ∈ wa_all := wa_in0 (List.mem_of_getElem? (i := 22) rfl)
theorem wm_23 : (.selects R_M y_M_isOpen y_M_isOpen : Cond) ∈ wa_all := wa_in0 (List.mem_of_getElem? (i := 23) rfl)
theorem wm_24 : (.selects R_M y_M_largeRoom y_M_largeRoom : Cond) ∈ wa_all := wa_in0 (List.mem_of_getElem? (i := 24) rfl)
theorem wm_25 : (.selects R_M y_M_gather y_M_gather : Cond) ∈ wa_all := wa_in0 (List.mem_of_getElem? (i := 25) rfl)
theorem wm_26 : (.selects R_M y_M_lookAtAll y_M_lookAtAll : Cond) ∈ wa_all := wa_in0 (List.mem_of_getElem? (i := 26) rfl)
theorem wm_27 : (.selects R_M y_M_look y_M_look : Cond) ∈ wa_all := wa_in0 (List.mem_of_getElem? (i := 27) rfl)
theorem wm_28 : (.selects R_M y_M_objectAt y_M_objectAt : Cond) ∈ wa_all := wa_in0 (List.mem_of_getElem? (i := 28) rfl)
theorem wm_29 : (.selects R_M y_M_giveUp y_M_giveUp : Cond) ∈ wa_all := wa_in0 (List.mem_of_getElem? (i := 29) rfl)
theorem wm_30 : (.selects R_M y_M_isBare y_M_isBare : Cond) ∈ wa_all := wa_in0 (List.mem_of_getElem? (i := 30) rfl)
theorem wm_31 : (.selects R_M y_M_settle y_M_settle : Cond) ∈ wa_all := wa_in0 (List.mem_of_getElem? (i := 31) rfl)
theorem wm_32 : (.selects R_M y_M_bar y_M_bar : Cond) ∈ wa_all := wa_in0 (List.mem_of_getElem? (i := 32) rfl)
theorem wm_33 : (.initialized R_L : Cond) ∈ wa_all := wa_in0 (List.mem_of_getElem? (i := 33) rfl)
theorem wm_34 : (.initialized R_G : Cond) ∈ wa_all := wa_in0 (List.mem_of_getElem? (i := 34) rfl)
theorem wm_35 : (.initialized R_A : Cond) ∈ wa_all := wa_in0 (List.mem_of_getElem? (i := 35) rfl)
theorem wm_36 : (.initialized R_M : Cond) ∈ wa_all := wa_in0 (List.mem_of_getElem? (i := 36) rfl)
theorem wm_37 : (.initialized "java/lang/Throwable" : Cond) ∈ wa_all := wa_in0 (List.mem_of_getElem? (i := 37) rfl)
theorem wm_38 : (.initialized "java/lang/Exception" : Cond) ∈ wa_all := wa_in0 (List.mem_of_getElem? (i := 38) rfl)
theorem wm_39 : (.initialized "java/lang/RuntimeException" : Cond) ∈ wa_all := wa_in0 (List.mem_of_getElem? (i := 39) rfl)
theorem wm_40 : (.initialized "java/lang/IllegalArgumentException" : Cond) ∈ wa_all := wa_in1 (List.mem_of_getElem? (i := 0) rfl)
theorem wm_41 : (.initialized "java/lang/System" : Cond) ∈ wa_all := wa_in1 (List.mem_of_getElem? (i := 1) rfl)
theorem wm_42 : (.initialized "java/lang/IndexOutOfBoundsException" : Cond) ∈ wa_all := wa_in1 (List.mem_of_getElem? (i := 2) rfl)
theorem wm_43 : (.initialized "java/lang/IllegalStateException" : Cond) ∈ wa_all := wa_in1 (List.mem_of_getElem? (i := 3) rfl)
theorem wm_44 : (.classLink R_L 8 R_G : Cond) ∈ wa_all := wa_in1 (List.mem_of_getElem? (i := 4) rfl)
theorem wm_45 : (.instantiable R_G 12 : Cond) ∈ wa_all := wa_in1 (List.mem_of_getElem? (i := 5) rfl)
theorem wm_46 : (.methodLink R_L 34 y_G_init : Cond) ∈ wa_all := wa_in1 (List.mem_of_getElem? (i := 6) rfl)
theorem wm_47 : (.instanceMethod y_G_init : Cond) ∈ wa_all := wa_in1 (List.mem_of_getElem? (i := 7) rfl)
theorem wm_48 : (.code y_G_init prog_1_method_1_code 1 none : Cond) ∈ wa_all := wa_in1 (List.mem_of_getElem? (i := 8) rfl)
theorem wm_49 : (.methodLink R_G 3 objectInit : Cond) ∈ wa_all := wa_in1 (List.mem_of_getElem? (i := 9) rfl)
theorem wm_50 : (.instanceMethod objectInit : Cond) ∈ wa_all := wa_in1 (List.mem_of_getElem? (i := 10) rfl)
theorem wm_51 : (.code objectInit object_method_1_code 1 none : Cond) ∈ wa_all := wa_in1 (List.mem_of_getElem? (i := 11) rfl)
theorem wm_52 : (.methodLink R_G 48 y_A_fill1 : Cond) ∈ wa_all := wa_in1 (List.mem_of_getElem? (i := 12) rfl)
theorem wm_53 : (.static y_A_fill1 : Cond) ∈ wa_all := wa_in1 (List.mem_of_getElem? (i := 13) rfl)
theorem wm_54 : (.code y_A_fill1 prog_20_method_103_code 4 none : Cond) ∈ wa_all := wa_in1 (List.mem_of_getElem? (i := 14) rfl)
theorem wm_55 : (.fieldLink R_G 9 R_G "roots" "[I" : Cond) ∈ wa_all := wa_in1 (List.mem_of_getElem? (i := 15) rfl)
theorem wm_56 : (.fieldLink R_G 13 R_G "kinds" "[I" : Cond) ∈ wa_all := wa_in1 (List.mem_of_getElem? (i := 16) rfl)
theorem wm_57 : (.fieldLink R_G 16 R_G "doubtful" "[Z" : Cond) ∈ wa_all := wa_in1 (List.mem_of_getElem? (i := 17) rfl)
theorem wm_58 : (.fieldLink R_G 20 R_G "words" "[I" : Cond) ∈ wa_all := wa_in1 (List.mem_of_getElem? (i := 18) rfl)
theorem wm_59 : (.fieldLink R_G 23 R_G "starts" "[I" : Cond) ∈ wa_all := wa_in1 (List.mem_of_getElem? (i := 19) rfl)
theorem wm_60 : (.fieldLink R_G 26 R_G "lengths" "[I" : Cond) ∈ wa_all := wa_in1 (List.mem_of_getElem? (i := 20) rfl)
theorem wm_61 : (.fieldLink R_G 29 R_G "unread" "[Z" : Cond) ∈ wa_all := wa_in1 (List.mem_of_getElem? (i := 21) rfl)
theorem wm_62 : (.fieldLink R_G 32 R_G "marked" "[Z" : Cond) ∈ wa_all := wa_in1 (List.mem_of_getElem? (i := 22) rfl)
theorem wm_63 : (.fieldLink R_G 35 R_G "found" "[I" : Cond) ∈ wa_all := wa_in1 (List.mem_of_getElem? (i := 23) rfl)
theorem wm_64 : (.fieldLink R_G 38 R_G "foundCount" "I" : Cond) ∈ wa_all := wa_in1 (List.mem_of_getElem? (i := 24) rfl)
theorem wm_65 : (.fieldLink R_G 42 R_G "objectCount" "I" : Cond) ∈ wa_all := wa_in1 (List.mem_of_getElem? (i := 25) rfl)
theorem wm_66 : (.fieldLink R_G 45 R_G "collectionCount" "I" : Cond) ∈ wa_all := wa_in1 (List.mem_of_getElem? (i := 26) rfl)
theorem wm_67 : (.laysFinal R_G R_G "roots" "[I" : Cond) ∈ wa_all := wa_in1 (List.mem_of_getElem? (i := 27) rfl)
theorem wm_68 : (.soleField R_G "roots" : Cond) ∈ wa_all := wa_in1 (List.mem_of_getElem? (i := 28) rfl)
theorem wm_69 : (.laysFinal R_G R_G "kinds" "[I" : Cond) ∈ wa_all := wa_in1 (List.mem_of_getElem? (i := 29) rfl)
theorem wm_70 : (.soleField R_G "kinds" : Cond) ∈ wa_all := wa_in1 (List.mem_of_getElem? (i := 30) rfl)
theorem wm_71 : (.laysFinal R_G R_G "doubtful" "[Z" : Cond) ∈ wa_all := wa_in1 (List.mem_of_getElem? (i := 31) rfl)
theorem wm_72 : (.soleField R_G "doubtful" : Cond) ∈ wa_all := wa_in1 (List.mem_of_getElem? (i := 32) rfl)
theorem wm_73 : (.laysFinal R_G R_G "words" "[I" : Cond) ∈ wa_all := wa_in1 (List.mem_of_getElem? (i := 33) rfl)
theorem wm_74 : (.soleField R_G "words" : Cond) ∈ wa_all := wa_in1 (List.mem_of_getElem? (i := 34) rfl)
theorem wm_75 : (.laysFinal R_G R_G "starts" "[I" : Cond) ∈ wa_all := wa_in1 (List.mem_of_getElem? (i := 35) rfl)
theorem wm_76 : (.soleField R_G "starts" : Cond) ∈ wa_all := wa_in1 (List.mem_of_getElem? (i := 36) rfl)
theorem wm_77 : (.laysFinal R_G R_G "lengths" "[I" : Cond) ∈ wa_all := wa_in1 (List.mem_of_getElem? (i := 37) rfl)
theorem wm_78 : (.soleField R_G "lengths" : Cond) ∈ wa_all := wa_in1 (List.mem_of_getElem? (i := 38) rfl)
theorem wm_79 : (.laysFinal R_G R_G "unread" "[Z" : Cond) ∈ wa_all := wa_in1 (List.mem_of_getElem? (i := 39) rfl)
theorem wm_80 : (.soleField R_G "unread" : Cond) ∈ wa_all := wa_in2 (List.mem_of_getElem? (i := 0) rfl)
theorem wm_81 : (.laysFinal R_G R_G "marked" "[Z" : Cond) ∈ wa_all := wa_in2 (List.mem_of_getElem? (i := 1) rfl)
theorem wm_82 : (.soleField R_G "marked" : Cond) ∈ wa_all := wa_in2 (List.mem_of_getElem? (i := 2) rfl)
theorem wm_83 : (.laysFinal R_G R_G "found" "[I" : Cond) ∈ wa_all := wa_in2 (List.mem_of_getElem? (i := 3) rfl)
theorem wm_84 : (.soleField R_G "found" : Cond) ∈ wa_all := wa_in2 (List.mem_of_getElem? (i := 4) rfl)
theorem wm_85 : (.lays R_G R_G "foundCount" "I" : Cond) ∈ wa_all := wa_in2 (List.mem_of_getElem? (i := 5) rfl)
theorem wm_86 : (.soleField R_G "foundCount" : Cond) ∈ wa_all := wa_in2 (List.mem_of_getElem? (i := 6) rfl)
theorem wm_87 : (.lays R_G R_G "objectCount" "I" : Cond) ∈ wa_all := wa_in2 (List.mem_of_getElem? (i := 7) rfl)
theorem wm_88 : (.soleField R_G "objectCount" : Cond) ∈ wa_all := wa_in2 (List.mem_of_getElem? (i := 8) rfl)
theorem wm_89 : (.lays R_G R_G "collectionCount" "I" : Cond) ∈ wa_all := wa_in2 (List.mem_of_getElem? (i := 9) rfl)
theorem wm_90 : (.soleField R_G "collectionCount" : Cond) ∈ wa_all := wa_in2 (List.mem_of_getElem? (i := 10) rfl)
theorem wm_91 : (.superclass R_G "java/lang/Object" : Cond) ∈ wa_all := wa_in2 (List.mem_of_getElem? (i := 11) rfl)
theorem wm_92 : (.arrayClass .int : Cond) ∈ wa_all := wa_in2 (List.mem_of_getElem? (i := 12) rfl)
theorem wm_93 : (.arrayClass .boolean : Cond) ∈ wa_all := wa_in2 (List.mem_of_getElem? (i := 13) rfl)
theorem wm_94 : (.methodLink R_L 63 y_G_collect : Cond) ∈ wa_all := wa_in2 (List.mem_of_getElem? (i := 14) rfl)
theorem wm_95 : (.instanceMethod y_G_collect : Cond) ∈ wa_all := wa_in2 (List.mem_of_getElem? (i := 15) rfl)
theorem wm_96 : (.selects R_G y_G_collect y_G_collect : Cond) ∈ wa_all := wa_in2 (List.mem_of_getElem? (i := 16) rfl)
theorem wm_97 : (.code y_G_collect prog_1_method_7_code 1 (some .int) : Cond) ∈ wa_all := wa_in2 (List.mem_of_getElem? (i := 17) rfl)
theorem wm_98 : (.methodLink R_G 65 y_G_collectNow : Cond) ∈ wa_all := wa_in2 (List.mem_of_getElem? (i := 18) rfl)
theorem wm_99 : (.instanceMethod y_G_collectNow : Cond) ∈ wa_all := wa_in2 (List.mem_of_getElem? (i := 19) rfl)
theorem wm_100 : (.code y_G_collectNow prog_1_method_31_code 2 (some .int) : Cond) ∈ wa_all := wa_in2 (List.mem_of_getElem? (i := 20) rfl)
theorem wm_101 : (.methodLink R_G 136 y_G_forgetMarks : Cond) ∈ wa_all := wa_in2 (List.mem_of_getElem? (i := 21) rfl)
theorem wm_102 : (.instanceMethod y_G_forgetMarks : Cond) ∈ wa_all := wa_in2 (List.mem_of_getElem? (i := 22) rfl)
theorem wm_103 : (.code y_G_forgetMarks prog_1_method_32_code 2 none : Cond) ∈ wa_all := wa_in2 (List.mem_of_getElem? (i := 23) rfl)
theorem wm_104 : (.methodLink R_G 139 y_G_lookAtRoots : Cond) ∈ wa_all := wa_in2 (List.mem_of_getElem? (i := 24) rfl)
theorem wm_105 : (.instanceMethod y_G_lookAtRoots : Cond) ∈ wa_all := wa_in2 (List.mem_of_getElem? (i := 25) rfl)
theorem wm_106 : (.code y_G_lookAtRoots prog_1_method_33_code 2 none : Cond) ∈ wa_all := wa_in2 (List.mem_of_getElem? (i := 26) rfl)
theorem wm_107 : (.methodLink R_G 151 y_G_lookAt : Cond) ∈ wa_all := wa_in2 (List.mem_of_getElem? (i := 27) rfl)
theorem wm_108 : (.instanceMethod y_G_lookAt : Cond) ∈ wa_all := wa_in2 (List.mem_of_getElem? (i := 28) rfl)
theorem wm_109 : (.code y_G_lookAt prog_1_method_36_code 4 none : Cond) ∈ wa_all := wa_in2 (List.mem_of_getElem? (i := 29) rfl)
theorem wm_110 : (.methodLink R_G 113 y_G_isAddress : Cond) ∈ wa_all := wa_in2 (List.mem_of_getElem? (i := 30) rfl)
theorem wm_111 : (.static y_G_isAddress : Cond) ∈ wa_all := wa_in2 (List.mem_of_getElem? (i := 31) rfl)
theorem wm_112 : (.code y_G_isAddress prog_1_method_15_code 1 (some .boolean) : Cond) ∈ wa_all := wa_in2 (List.mem_of_getElem? (i := 32) rfl)
theorem wm_113 : (.methodLink R_G 95 y_G_startAt : Cond) ∈ wa_all := wa_in2 (List.mem_of_getElem? (i := 33) rfl)
theorem wm_114 : (.instanceMethod y_G_startAt : Cond) ∈ wa_all := wa_in2 (List.mem_of_getElem? (i := 34) rfl)
theorem wm_115 : (.code y_G_startAt prog_1_method_19_code 2 (some .int) : Cond) ∈ wa_all := wa_in2 (List.mem_of_getElem? (i := 35) rfl)
theorem wm_116 : (.methodLink R_G 157 y_G_mark : Cond) ∈ wa_all := wa_in2 (List.mem_of_getElem? (i := 36) rfl)
theorem wm_117 : (.instanceMethod y_G_mark : Cond) ∈ wa_all := wa_in2 (List.mem_of_getElem? (i := 37) rfl)
theorem wm_118 : (.code y_G_mark prog_1_method_37_code 2 none : Cond) ∈ wa_all := wa_in2 (List.mem_of_getElem? (i := 38) rfl)
theorem wm_119 : (.methodLink R_G 142 y_G_lookAtMarkedObjects : Cond) ∈ wa_all := wa_in2 (List.mem_of_getElem? (i := 39) rfl)
theorem wm_120 : (.instanceMethod y_G_lookAtMarkedObjects : Cond) ∈ wa_all := wa_in3 (List.mem_of_getElem? (i := 0) rfl)
theorem wm_121 : (.code y_G_lookAtMarkedObjects prog_1_method_34_code 3 none : Cond) ∈ wa_all := wa_in3 (List.mem_of_getElem? (i := 1) rfl)
theorem wm_122 : (.methodLink R_G 154 y_G_lookAtWords : Cond) ∈ wa_all := wa_in3 (List.mem_of_getElem? (i := 2) rfl)
theorem wm_123 : (.instanceMethod y_G_lookAtWords : Cond) ∈ wa_all := wa_in3 (List.mem_of_getElem? (i := 3) rfl)
theorem wm_124 : (.code y_G_lookAtWords prog_1_method_35_code 4 none : Cond) ∈ wa_all := wa_in3 (List.mem_of_getElem? (i := 4) rfl)
theorem wm_125 : (.methodLink R_G 145 y_G_giveUpUnmarkedObjects : Cond) ∈ wa_all := wa_in3 (List.mem_of_getElem? (i := 5) rfl)
theorem wm_126 : (.instanceMethod y_G_giveUpUnmarkedObjects : Cond) ∈ wa_all := wa_in3 (List.mem_of_getElem? (i := 6) rfl)
theorem wm_127 : (.code y_G_giveUpUnmarkedObjects prog_1_method_38_code 2 none : Cond) ∈ wa_all := wa_in3 (List.mem_of_getElem? (i := 7) rfl)
theorem wm_128 : (.methodLink R_G 160 y_G_giveUp : Cond) ∈ wa_all := wa_in3 (List.mem_of_getElem? (i := 8) rfl)
theorem wm_129 : (.instanceMethod y_G_giveUp : Cond) ∈ wa_all := wa_in3 (List.mem_of_getElem? (i := 9) rfl)
theorem wm_130 : (.code y_G_giveUp prog_1_method_39_code 3 none : Cond) ∈ wa_all := wa_in3 (List.mem_of_getElem? (i := 10) rfl)
theorem wm_131 : (.methodLink R_G 133 y_A_fill3 : Cond) ∈ wa_all := wa_in3 (List.mem_of_getElem? (i := 11) rfl)
theorem wm_132 : (.static y_A_fill3 : Cond) ∈ wa_all := wa_in3 (List.mem_of_getElem? (i := 12) rfl)
theorem wm_133 : (.code y_A_fill3 prog_20_method_104_code 5 none : Cond) ∈ wa_all := wa_in3 (List.mem_of_getElem? (i := 13) rfl)
theorem wm_134 : (.methodLink R_A 13 y_A_rangeCheck : Cond) ∈ wa_all := wa_in3 (List.mem_of_getElem? (i := 14) rfl)
theorem wm_135 : (.static y_A_rangeCheck : Cond) ∈ wa_all := wa_in3 (List.mem_of_getElem? (i := 15) rfl)
theorem wm_136 : (.code y_A_rangeCheck prog_20_method_30_code 3 none : Cond) ∈ wa_all := wa_in3 (List.mem_of_getElem? (i := 16) rfl)
theorem wm_137 : (.classLink R_A 43 "java/lang/IllegalArgumentException" : Cond) ∈ wa_all := wa_in3 (List.mem_of_getElem? (i := 17) rfl)
theorem wm_138 : (.instantiable "java/lang/IllegalArgumentException" 6 : Cond) ∈ wa_all := wa_in3 (List.mem_of_getElem? (i := 18) rfl)
theorem wm_139 : (.selects "java/lang/IllegalArgumentException" ⟨"java/lang/Throwable", "fillInStackTrace", "(I)Ljava/lang/Throwable;"⟩ ⟨"java/lang/Throwable", "fillInStackTrace", "(I)Ljava/lang/Throwable;"⟩ : Cond) ∈ wa_all := wa_in3 (List.mem_of_getElem? (i := 19) rfl)
theorem wm_140 : (.selects "java/lang/IllegalArgumentException" ⟨"java/lang/Throwable", "fillInStackTrace", "()Ljava/lang/Throwable;"⟩ ⟨"java/lang/Throwable", "fillInStackTrace", "()Ljava/lang/Throwable;"⟩ : Cond) ∈ wa_all := wa_in3 (List.mem_of_getElem? (i := 20) rfl)
theorem wm_141 : (.lays "java/lang/IllegalArgumentException" "java/lang/Throwable" "cause" "Ljava/lang/Throwable;" : Cond) ∈ wa_all := wa_in3 (List.mem_of_getElem? (i := 21) rfl)
theorem wm_142 : (.lays "java/lang/Throwable" "java/lang/Throwable" "cause" "Ljava/lang/Throwable;" : Cond) ∈ wa_all := wa_in3 (List.mem_of_getElem? (i := 22) rfl)
theorem wm_143 : (.lays "java/lang/IllegalArgumentException" "java/lang/Throwable" "stackTrace" "[Ljava/lang/StackTraceElement;" : Cond) ∈ wa_all := wa_in3 (List.mem_of_getElem? (i := 23) rfl)
theorem wm_144 : (.lays "java/lang/Throwable" "java/lang/Throwable" "stackTrace" "[Ljava/lang/StackTraceElement;" : Cond) ∈ wa_all := wa_in3 (List.mem_of_getElem? (i := 24) rfl)
theorem wm_145 : (.lays "java/lang/IllegalArgumentException" "java/lang/Throwable" "suppressedExceptions" "Ljava/util/List;" : Cond) ∈ wa_all := wa_in3 (List.mem_of_getElem? (i := 25) rfl)
theorem wm_146 : (.lays "java/lang/Throwable" "java/lang/Throwable" "suppressedExceptions" "Ljava/util/List;" : Cond) ∈ wa_all := wa_in3 (List.mem_of_getElem? (i := 26) rfl)
theorem wm_147 : (.lays "java/lang/IllegalArgumentException" "java/lang/Throwable" "detailMessage" "Ljava/lang/String;" : Cond) ∈ wa_all := wa_in3 (List.mem_of_getElem? (i := 27) rfl)
theorem wm_148 : (.lays "java/lang/Throwable" "java/lang/Throwable" "detailMessage" "Ljava/lang/String;" : Cond) ∈ wa_all := wa_in3 (List.mem_of_getElem? (i := 28) rfl)
theorem wm_149 : (.lays "java/lang/IllegalArgumentException" "java/lang/Throwable" "backtrace" "Ljava/lang/Object;" : Cond) ∈ wa_all := wa_in3 (List.mem_of_getElem? (i := 29) rfl)
theorem wm_150 : (.lays "java/lang/Throwable" "java/lang/Throwable" "backtrace" "Ljava/lang/Object;" : Cond) ∈ wa_all := wa_in3 (List.mem_of_getElem? (i := 30) rfl)
theorem wm_151 : (.fieldLink "java/lang/Throwable" 198 "java/lang/Throwable" "backtrace" "Ljava/lang/Object;" : Cond) ∈ wa_all := wa_in3 (List.mem_of_getElem? (i := 31) rfl)
theorem wm_152 : (.superclass "java/lang/Throwable" "java/lang/Object" : Cond) ∈ wa_all := wa_in3 (List.mem_of_getElem? (i := 32) rfl)
theorem wm_153 : (.instanceMethod ⟨"java/lang/Throwable", "<init>", "()V"⟩ : Cond) ∈ wa_all := wa_in3 (List.mem_of_getElem? (i := 33) rfl)
theorem wm_154 : (.code ⟨"java/lang/Throwable", "<init>", "()V"⟩ prog_19_method_1_code 1 none : Cond) ∈ wa_all := wa_in3 (List.mem_of_getElem? (i := 34) rfl)
theorem wm_155 : (.methodLink "java/lang/Throwable" 1 objectInit : Cond) ∈ wa_all := wa_in3 (List.mem_of_getElem? (i := 35) rfl)
theorem wm_156 : (.fieldLink "java/lang/Throwable" 13 "java/lang/Throwable" "UNASSIGNED_STACK" "[Ljava/lang/StackTraceElement;" : Cond) ∈ wa_all := wa_in3 (List.mem_of_getElem? (i := 36) rfl)
theorem wm_157 : (.fieldLink "java/lang/Throwable" 20 "java/lang/Throwable" "SUPPRESSED_SENTINEL" "Ljava/util/List;" : Cond) ∈ wa_all := wa_in3 (List.mem_of_getElem? (i := 37) rfl)
theorem wm_158 : (.methodLink "java/lang/Throwable" 27 ⟨"java/lang/Throwable", "fillInStackTrace", "()Ljava/lang/Throwable;"⟩ : Cond) ∈ wa_all := wa_in3 (List.mem_of_getElem? (i := 38) rfl)
theorem wm_159 : (.instanceMethod ⟨"java/lang/Throwable", "fillInStackTrace", "()Ljava/lang/Throwable;"⟩ : Cond) ∈ wa_all := wa_in3 (List.mem_of_getElem? (i := 39) rfl)
theorem wm_160 : (.sameMethod "java/lang/Throwable" "java/lang/Throwable" "fillInStackTrace" "()Ljava/lang/Throwable;" : Cond) ∈ wa_all := wa_in4 (List.mem_of_getElem? (i := 0) rfl)
theorem wm_161 : (.selects "java/lang/IllegalStateException" ⟨"java/lang/Throwable", "fillInStackTrace", "()Ljava/lang/Throwable;"⟩ ⟨"java/lang/Throwable", "fillInStackTrace", "()Ljava/lang/Throwable;"⟩ : Cond) ∈ wa_all := wa_in4 (List.mem_of_getElem? (i := 1) rfl)
theorem wm_162 : (.selects "java/lang/IndexOutOfBoundsException" ⟨"java/lang/Throwable", "fillInStackTrace", "()Ljava/lang/Throwable;"⟩ ⟨"java/lang/Throwable", "fillInStackTrace", "()Ljava/lang/Throwable;"⟩ : Cond) ∈ wa_all := wa_in4 (List.mem_of_getElem? (i := 2) rfl)
theorem wm_163 : (.codeSync ⟨"java/lang/Throwable", "fillInStackTrace", "()Ljava/lang/Throwable;"⟩ prog_19_method_18_code 1 (some (.object "java/lang/Throwable")) : Cond) ∈ wa_all := wa_in4 (List.mem_of_getElem? (i := 3) rfl)
theorem wm_164 : (.methodLink "java/lang/Throwable" 202 ⟨"java/lang/Throwable", "fillInStackTrace", "(I)Ljava/lang/Throwable;"⟩ : Cond) ∈ wa_all := wa_in4 (List.mem_of_getElem? (i := 4) rfl)
theorem wm_165 : (.instanceMethod ⟨"java/lang/Throwable", "fillInStackTrace", "(I)Ljava/lang/Throwable;"⟩ : Cond) ∈ wa_all := wa_in4 (List.mem_of_getElem? (i := 5) rfl)
theorem wm_166 : (.instantiable "java/lang/Throwable" 6 : Cond) ∈ wa_all := wa_in4 (List.mem_of_getElem? (i := 6) rfl)
theorem wm_167 : (.native ⟨"java/lang/Throwable", "fillInStackTrace", "(I)Ljava/lang/Throwable;"⟩ : Cond) ∈ wa_all := wa_in4 (List.mem_of_getElem? (i := 7) rfl)
theorem wm_168 : (.arrayClass .byte : Cond) ∈ wa_all := wa_in4 (List.mem_of_getElem? (i := 8) rfl)
theorem wm_169 : (.native ⟨"java/lang/Object", "clone", "()Ljava/lang/Object;"⟩ : Cond) ∈ wa_all := wa_in4 (List.mem_of_getElem? (i := 9) rfl)
theorem wm_170 : (.instanceMethod ⟨"java/lang/Object", "clone", "()Ljava/lang/Object;"⟩ : Cond) ∈ wa_all := wa_in4 (List.mem_of_getElem? (i := 10) rfl)
theorem wm_171 : (.methodLink R_A 343 ⟨R_A, "checkLength", "(II)V"⟩ : Cond) ∈ wa_all := wa_in4 (List.mem_of_getElem? (i := 11) rfl)
theorem wm_172 : (.static ⟨R_A, "checkLength", "(II)V"⟩ : Cond) ∈ wa_all := wa_in4 (List.mem_of_getElem? (i := 12) rfl)
theorem wm_173 : (.code ⟨R_A, "checkLength", "(II)V"⟩ prog_20_method_131_code 2 none : Cond) ∈ wa_all := wa_in4 (List.mem_of_getElem? (i := 13) rfl)
theorem wm_174 : (.methodLink R_A 65 ⟨"java/lang/IllegalArgumentException", "<init>", "(Ljava/lang/String;)V"⟩ : Cond) ∈ wa_all := wa_in4 (List.mem_of_getElem? (i := 14) rfl)
theorem wm_175 : (.instanceMethod ⟨"java/lang/IllegalArgumentException", "<init>", "(Ljava/lang/String;)V"⟩ : Cond) ∈ wa_all := wa_in4 (List.mem_of_getElem? (i := 15) rfl)
theorem wm_176 : (.code ⟨"java/lang/IllegalArgumentException", "<init>", "(Ljava/lang/String;)V"⟩ prog_8_method_2_code 2 none : Cond) ∈ wa_all := wa_in4 (List.mem_of_getElem? (i := 16) rfl)
theorem wm_177 : (.methodLink "java/lang/IllegalArgumentException" 7 ⟨"java/lang/RuntimeException", "<init>", "(Ljava/lang/String;)V"⟩ : Cond) ∈ wa_all := wa_in4 (List.mem_of_getElem? (i := 17) rfl)
theorem wm_178 : (.instanceMethod ⟨"java/lang/RuntimeException", "<init>", "(Ljava/lang/String;)V"⟩ : Cond) ∈ wa_all := wa_in4 (List.mem_of_getElem? (i := 18) rfl)
theorem wm_179 : (.code ⟨"java/lang/RuntimeException", "<init>", "(Ljava/lang/String;)V"⟩ prog_13_method_2_code 2 none : Cond) ∈ wa_all := wa_in4 (List.mem_of_getElem? (i := 19) rfl)
theorem wm_180 : (.methodLink "java/lang/RuntimeException" 7 ⟨"java/lang/Exception", "<init>", "(Ljava/lang/String;)V"⟩ : Cond) ∈ wa_all := wa_in4 (List.mem_of_getElem? (i := 20) rfl)
theorem wm_181 : (.instanceMethod ⟨"java/lang/Exception", "<init>", "(Ljava/lang/String;)V"⟩ : Cond) ∈ wa_all := wa_in4 (List.mem_of_getElem? (i := 21) rfl)
theorem wm_182 : (.code ⟨"java/lang/Exception", "<init>", "(Ljava/lang/String;)V"⟩ prog_7_method_2_code 2 none : Cond) ∈ wa_all := wa_in4 (List.mem_of_getElem? (i := 22) rfl)
theorem wm_183 : (.methodLink "java/lang/Exception" 7 ⟨"java/lang/Throwable", "<init>", "(Ljava/lang/String;)V"⟩ : Cond) ∈ wa_all := wa_in4 (List.mem_of_getElem? (i := 23) rfl)
theorem wm_184 : (.instanceMethod ⟨"java/lang/Throwable", "<init>", "(Ljava/lang/String;)V"⟩ : Cond) ∈ wa_all := wa_in4 (List.mem_of_getElem? (i := 24) rfl)
theorem wm_185 : (.code ⟨"java/lang/Throwable", "<init>", "(Ljava/lang/String;)V"⟩ prog_19_method_2_code 2 none : Cond) ∈ wa_all := wa_in4 (List.mem_of_getElem? (i := 25) rfl)
theorem wm_186 : (.fieldLink "java/lang/Throwable" 198 "java/lang/Throwable" "backtrace" "Ljava/lang/Object;" : Cond) ∈ wa_all := wa_in4 (List.mem_of_getElem? (i := 26) rfl)
theorem wm_187 : (.fieldLink "java/lang/Throwable" 31 "java/lang/Throwable" "detailMessage" "Ljava/lang/String;" : Cond) ∈ wa_all := wa_in4 (List.mem_of_getElem? (i := 27) rfl)
theorem wm_188 : (.fieldLink "java/lang/Throwable" 7 "java/lang/Throwable" "cause" "Ljava/lang/Throwable;" : Cond) ∈ wa_all := wa_in4 (List.mem_of_getElem? (i := 28) rfl)
theorem wm_189 : (.fieldLink "java/lang/Throwable" 17 "java/lang/Throwable" "stackTrace" "[Ljava/lang/StackTraceElement;" : Cond) ∈ wa_all := wa_in4 (List.mem_of_getElem? (i := 29) rfl)
theorem wm_190 : (.fieldLink "java/lang/Throwable" 24 "java/lang/Throwable" "suppressedExceptions" "Ljava/util/List;" : Cond) ∈ wa_all := wa_in4 (List.mem_of_getElem? (i := 30) rfl)
theorem wm_191 : (.soleField "java/lang/Throwable" "backtrace" : Cond) ∈ wa_all := wa_in4 (List.mem_of_getElem? (i := 31) rfl)
theorem wm_192 : (.soleField "java/lang/Throwable" "detailMessage" : Cond) ∈ wa_all := wa_in4 (List.mem_of_getElem? (i := 32) rfl)
theorem wm_193 : (.soleField "java/lang/Throwable" "cause" : Cond) ∈ wa_all := wa_in4 (List.mem_of_getElem? (i := 33) rfl)
theorem wm_194 : (.soleField "java/lang/Throwable" "stackTrace" : Cond) ∈ wa_all := wa_in4 (List.mem_of_getElem? (i := 34) rfl)
theorem wm_195 : (.lays "java/lang/IllegalArgumentException" "java/lang/Throwable" "depth" "I" : Cond) ∈ wa_all := wa_in4 (List.mem_of_getElem? (i := 35) rfl)
theorem wm_196 : (.soleField "java/lang/Throwable" "depth" : Cond) ∈ wa_all := wa_in4 (List.mem_of_getElem? (i := 36) rfl)
theorem wm_197 : (.soleField "java/lang/Throwable" "suppressedExceptions" : Cond) ∈ wa_all := wa_in4 (List.mem_of_getElem? (i := 37) rfl)
theorem wm_198 : (.superclass "java/lang/IllegalArgumentException" "java/lang/RuntimeException" : Cond) ∈ wa_all := wa_in4 (List.mem_of_getElem? (i := 38) rfl)
theorem wm_199 : (.instanceMethod ⟨"java/lang/IndexOutOfBoundsException", "<init>", "(Ljava/lang/String;)V"⟩ : Cond) ∈ wa_all := wa_in4 (List.mem_of_getElem? (i := 39) rfl)
theorem wm_200 : (.code ⟨"java/lang/IndexOutOfBoundsException", "<init>", "(Ljava/lang/String;)V"⟩ prog_10_method_2_code 2 none : Cond) ∈ wa_all := wa_in5 (List.mem_of_getElem? (i := 0) rfl)
theorem wm_201 : (.methodLink "java/lang/IndexOutOfBoundsException" 7 ⟨"java/lang/RuntimeException", "<init>", "(Ljava/lang/String;)V"⟩ : Cond) ∈ wa_all := wa_in5 (List.mem_of_getElem? (i := 1) rfl)
theorem wm_202 : (.methodLink R_G 148 y_G_freeBlocksWithoutObjects : Cond) ∈ wa_all := wa_in5 (List.mem_of_getElem? (i := 2) rfl)
theorem wm_203 : (.instanceMethod y_G_freeBlocksWithoutObjects : Cond) ∈ wa_all := wa_in5 (List.mem_of_getElem? (i := 3) rfl)
theorem wm_204 : (.code y_G_freeBlocksWithoutObjects prog_1_method_40_code 2 none : Cond) ∈ wa_all := wa_in5 (List.mem_of_getElem? (i := 4) rfl)
theorem wm_205 : (.methodLink R_G 105 y_G_wordsInNoObject : Cond) ∈ wa_all := wa_in5 (List.mem_of_getElem? (i := 5) rfl)
theorem wm_206 : (.instanceMethod y_G_wordsInNoObject : Cond) ∈ wa_all := wa_in5 (List.mem_of_getElem? (i := 6) rfl)
theorem wm_207 : (.code y_G_wordsInNoObject prog_1_method_21_code 4 (some .int) : Cond) ∈ wa_all := wa_in5 (List.mem_of_getElem? (i := 7) rfl)
theorem wm_208 : (.methodLink R_L 67 y_G_base : Cond) ∈ wa_all := wa_in5 (List.mem_of_getElem? (i := 8) rfl)
theorem wm_209 : (.instanceMethod y_G_base : Cond) ∈ wa_all := wa_in5 (List.mem_of_getElem? (i := 9) rfl)
theorem wm_210 : (.selects R_G y_G_base y_G_base : Cond) ∈ wa_all := wa_in5 (List.mem_of_getElem? (i := 10) rfl)
theorem wm_211 : (.code y_G_base prog_1_method_8_code 3 (some .int) : Cond) ∈ wa_all := wa_in5 (List.mem_of_getElem? (i := 11) rfl)
theorem wm_212 : (.methodLink R_L 71 y_G_size : Cond) ∈ wa_all := wa_in5 (List.mem_of_getElem? (i := 12) rfl)
theorem wm_213 : (.instanceMethod y_G_size : Cond) ∈ wa_all := wa_in5 (List.mem_of_getElem? (i := 13) rfl)
theorem wm_214 : (.selects R_G y_G_size y_G_size : Cond) ∈ wa_all := wa_in5 (List.mem_of_getElem? (i := 14) rfl)
theorem wm_215 : (.code y_G_size prog_1_method_9_code 3 (some .int) : Cond) ∈ wa_all := wa_in5 (List.mem_of_getElem? (i := 15) rfl)
theorem wm_216 : (.methodLink R_L 75 y_G_silent : Cond) ∈ wa_all := wa_in5 (List.mem_of_getElem? (i := 16) rfl)
theorem wm_217 : (.instanceMethod y_G_silent : Cond) ∈ wa_all := wa_in5 (List.mem_of_getElem? (i := 17) rfl)
theorem wm_218 : (.selects R_G y_G_silent y_G_silent : Cond) ∈ wa_all := wa_in5 (List.mem_of_getElem? (i := 18) rfl)
theorem wm_219 : (.code y_G_silent prog_1_method_10_code 3 (some .boolean) : Cond) ∈ wa_all := wa_in5 (List.mem_of_getElem? (i := 19) rfl)
theorem wm_220 : (.methodLink R_L 80 y_G_block : Cond) ∈ wa_all := wa_in5 (List.mem_of_getElem? (i := 20) rfl)
theorem wm_221 : (.instanceMethod y_G_block : Cond) ∈ wa_all := wa_in5 (List.mem_of_getElem? (i := 21) rfl)
theorem wm_222 : (.selects R_G y_G_block y_G_block : Cond) ∈ wa_all := wa_in5 (List.mem_of_getElem? (i := 22) rfl)
theorem wm_223 : (.code y_G_block prog_1_method_11_code 2 (some .int) : Cond) ∈ wa_all := wa_in5 (List.mem_of_getElem? (i := 23) rfl)
theorem wm_224 : (.methodLink R_G 98 y_G_isBlock : Cond) ∈ wa_all := wa_in5 (List.mem_of_getElem? (i := 24) rfl)
theorem wm_225 : (.static y_G_isBlock : Cond) ∈ wa_all := wa_in5 (List.mem_of_getElem? (i := 25) rfl)
theorem wm_226 : (.code y_G_isBlock prog_1_method_16_code 1 (some .boolean) : Cond) ∈ wa_all := wa_in5 (List.mem_of_getElem? (i := 26) rfl)
theorem wm_227 : (.methodLink R_L 84 y_G_empty : Cond) ∈ wa_all := wa_in5 (List.mem_of_getElem? (i := 27) rfl)
theorem wm_228 : (.instanceMethod y_G_empty : Cond) ∈ wa_all := wa_in5 (List.mem_of_getElem? (i := 28) rfl)
theorem wm_229 : (.selects R_G y_G_empty y_G_empty : Cond) ∈ wa_all := wa_in5 (List.mem_of_getElem? (i := 29) rfl)
theorem wm_230 : (.code y_G_empty prog_1_method_12_code 2 (some .int) : Cond) ∈ wa_all := wa_in5 (List.mem_of_getElem? (i := 30) rfl)
theorem wm_231 : (.methodLink R_G 102 y_G_isSplit : Cond) ∈ wa_all := wa_in5 (List.mem_of_getElem? (i := 31) rfl)
theorem wm_232 : (.instanceMethod y_G_isSplit : Cond) ∈ wa_all := wa_in5 (List.mem_of_getElem? (i := 32) rfl)
theorem wm_233 : (.code y_G_isSplit prog_1_method_20_code 2 (some .boolean) : Cond) ∈ wa_all := wa_in5 (List.mem_of_getElem? (i := 33) rfl)
theorem wm_234 : (.methodLink R_L 88 y_G_objects : Cond) ∈ wa_all := wa_in5 (List.mem_of_getElem? (i := 34) rfl)
theorem wm_235 : (.instanceMethod y_G_objects : Cond) ∈ wa_all := wa_in5 (List.mem_of_getElem? (i := 35) rfl)
theorem wm_236 : (.selects R_G y_G_objects y_G_objects : Cond) ∈ wa_all := wa_in5 (List.mem_of_getElem? (i := 36) rfl)
theorem wm_237 : (.code y_G_objects prog_1_method_13_code 1 (some .int) : Cond) ∈ wa_all := wa_in5 (List.mem_of_getElem? (i := 37) rfl)
theorem wm_238 : (.methodLink R_L 92 y_G_collections : Cond) ∈ wa_all := wa_in5 (List.mem_of_getElem? (i := 38) rfl)
theorem wm_239 : (.instanceMethod y_G_collections : Cond) ∈ wa_all := wa_in5 (List.mem_of_getElem? (i := 39) rfl)
theorem wm_240 : (.selects R_G y_G_collections y_G_collections : Cond) ∈ wa_all := wa_in6 (List.mem_of_getElem? (i := 0) rfl)
theorem wm_241 : (.code y_G_collections prog_1_method_14_code 1 (some .int) : Cond) ∈ wa_all := wa_in6 (List.mem_of_getElem? (i := 1) rfl)
theorem wm_242 : (.methodLink R_L 38 y_L_allocate : Cond) ∈ wa_all := wa_in6 (List.mem_of_getElem? (i := 2) rfl)
theorem wm_243 : (.static y_L_allocate : Cond) ∈ wa_all := wa_in6 (List.mem_of_getElem? (i := 3) rfl)
theorem wm_244 : (.codeWith y_L_allocate method_3_code 5 (some .int) [(0, 10, 13, 13), (0, 10, 17, 15)] : Cond) ∈ wa_all := wa_in6 (List.mem_of_getElem? (i := 4) rfl)
theorem wm_245 : (.classLink R_L 13 "java/lang/IllegalArgumentException" : Cond) ∈ wa_all := wa_in6 (List.mem_of_getElem? (i := 5) rfl)
theorem wm_246 : (.classLink R_L 15 "java/lang/IllegalStateException" : Cond) ∈ wa_all := wa_in6 (List.mem_of_getElem? (i := 6) rfl)
theorem wm_247 : (.methodLink R_L 7 y_G_allocate : Cond) ∈ wa_all := wa_in6 (List.mem_of_getElem? (i := 7) rfl)
theorem wm_248 : (.instanceMethod y_G_allocate : Cond) ∈ wa_all := wa_in6 (List.mem_of_getElem? (i := 8) rfl)
theorem wm_249 : (.selects R_G y_G_allocate y_G_allocate : Cond) ∈ wa_all := wa_in6 (List.mem_of_getElem? (i := 9) rfl)
theorem wm_250 : (.code y_G_allocate prog_1_method_2_code 4 (some .int) : Cond) ∈ wa_all := wa_in6 (List.mem_of_getElem? (i := 10) rfl)
theorem wm_251 : (.classLink R_G 54 "java/lang/IllegalArgumentException" : Cond) ∈ wa_all := wa_in6 (List.mem_of_getElem? (i := 11) rfl)
theorem wm_252 : (.methodLink R_G 58 ⟨"java/lang/IllegalArgumentException", "<init>", "(Ljava/lang/String;)V"⟩ : Cond) ∈ wa_all := wa_in6 (List.mem_of_getElem? (i := 12) rfl)
theorem wm_253 : (.methodLink R_G 61 y_G_findRoom : Cond) ∈ wa_all := wa_in6 (List.mem_of_getElem? (i := 13) rfl)
theorem wm_254 : (.instanceMethod y_G_findRoom : Cond) ∈ wa_all := wa_in6 (List.mem_of_getElem? (i := 14) rfl)
theorem wm_255 : (.code y_G_findRoom prog_1_method_24_code 4 (some .int) : Cond) ∈ wa_all := wa_in6 (List.mem_of_getElem? (i := 15) rfl)
theorem wm_256 : (.methodLink R_G 82 y_G_blocksFor : Cond) ∈ wa_all := wa_in6 (List.mem_of_getElem? (i := 16) rfl)
theorem wm_257 : (.static y_G_blocksFor : Cond) ∈ wa_all := wa_in6 (List.mem_of_getElem? (i := 17) rfl)
theorem wm_258 : (.code y_G_blocksFor prog_1_method_23_code 1 (some .int) : Cond) ∈ wa_all := wa_in6 (List.mem_of_getElem? (i := 18) rfl)
theorem wm_259 : (.methodLink R_G 120 y_G_findBlocks : Cond) ∈ wa_all := wa_in6 (List.mem_of_getElem? (i := 19) rfl)
theorem wm_260 : (.instanceMethod y_G_findBlocks : Cond) ∈ wa_all := wa_in6 (List.mem_of_getElem? (i := 20) rfl)
theorem wm_261 : (.code y_G_findBlocks prog_1_method_26_code 6 (some .int) : Cond) ∈ wa_all := wa_in6 (List.mem_of_getElem? (i := 21) rfl)
theorem wm_262 : (.methodLink R_G 74 y_G_slotSize : Cond) ∈ wa_all := wa_in6 (List.mem_of_getElem? (i := 22) rfl)
theorem wm_263 : (.static y_G_slotSize : Cond) ∈ wa_all := wa_in6 (List.mem_of_getElem? (i := 23) rfl)
theorem wm_264 : (.code y_G_slotSize prog_1_method_22_code 2 (some .int) : Cond) ∈ wa_all := wa_in6 (List.mem_of_getElem? (i := 24) rfl)
theorem wm_265 : (.methodLink R_G 123 y_G_findEmptySlot : Cond) ∈ wa_all := wa_in6 (List.mem_of_getElem? (i := 25) rfl)
theorem wm_266 : (.instanceMethod y_G_findEmptySlot : Cond) ∈ wa_all := wa_in6 (List.mem_of_getElem? (i := 26) rfl)
theorem wm_267 : (.code y_G_findEmptySlot prog_1_method_25_code 3 (some .int) : Cond) ∈ wa_all := wa_in6 (List.mem_of_getElem? (i := 27) rfl)
theorem wm_268 : (.classLink R_G 69 "java/lang/IllegalStateException" : Cond) ∈ wa_all := wa_in6 (List.mem_of_getElem? (i := 28) rfl)
theorem wm_269 : (.instantiable "java/lang/IllegalStateException" 6 : Cond) ∈ wa_all := wa_in6 (List.mem_of_getElem? (i := 29) rfl)
theorem wm_270 : (.selects "java/lang/IllegalStateException" ⟨"java/lang/Throwable", "fillInStackTrace", "(I)Ljava/lang/Throwable;"⟩ ⟨"java/lang/Throwable", "fillInStackTrace", "(I)Ljava/lang/Throwable;"⟩ : Cond) ∈ wa_all := wa_in6 (List.mem_of_getElem? (i := 30) rfl)
theorem wm_271 : (.lays "java/lang/IllegalStateException" "java/lang/Throwable" "cause" "Ljava/lang/Throwable;" : Cond) ∈ wa_all := wa_in6 (List.mem_of_getElem? (i := 31) rfl)
theorem wm_272 : (.lays "java/lang/IllegalStateException" "java/lang/Throwable" "stackTrace" "[Ljava/lang/StackTraceElement;" : Cond) ∈ wa_all := wa_in6 (List.mem_of_getElem? (i := 32) rfl)
theorem wm_273 : (.lays "java/lang/IllegalStateException" "java/lang/Throwable" "suppressedExceptions" "Ljava/util/List;" : Cond) ∈ wa_all := wa_in6 (List.mem_of_getElem? (i := 33) rfl)
theorem wm_274 : (.lays "java/lang/IllegalStateException" "java/lang/Throwable" "detailMessage" "Ljava/lang/String;" : Cond) ∈ wa_all := wa_in6 (List.mem_of_getElem? (i := 34) rfl)
theorem wm_275 : (.lays "java/lang/IllegalStateException" "java/lang/Throwable" "backtrace" "Ljava/lang/Object;" : Cond) ∈ wa_all := wa_in6 (List.mem_of_getElem? (i := 35) rfl)
theorem wm_276 : (.methodLink R_G 73 ⟨"java/lang/IllegalStateException", "<init>", "(Ljava/lang/String;)V"⟩ : Cond) ∈ wa_all := wa_in6 (List.mem_of_getElem? (i := 36) rfl)
theorem wm_277 : (.instanceMethod ⟨"java/lang/IllegalStateException", "<init>", "(Ljava/lang/String;)V"⟩ : Cond) ∈ wa_all := wa_in6 (List.mem_of_getElem? (i := 37) rfl)
theorem wm_278 : (.code ⟨"java/lang/IllegalStateException", "<init>", "(Ljava/lang/String;)V"⟩ prog_9_method_2_code 2 none : Cond) ∈ wa_all := wa_in6 (List.mem_of_getElem? (i := 38) rfl)
theorem wm_279 : (.methodLink "java/lang/IllegalStateException" 7 ⟨"java/lang/RuntimeException", "<init>", "(Ljava/lang/String;)V"⟩ : Cond) ∈ wa_all := wa_in6 (List.mem_of_getElem? (i := 39) rfl)
theorem wm_280 : (.lays "java/lang/IllegalStateException" "java/lang/Throwable" "depth" "I" : Cond) ∈ wa_all := wa_in7 (List.mem_of_getElem? (i := 0) rfl)
theorem wm_281 : (.superclass "java/lang/IllegalStateException" "java/lang/RuntimeException" : Cond) ∈ wa_all := wa_in7 (List.mem_of_getElem? (i := 1) rfl)
theorem wm_282 : (.methodLink R_G 78 y_G_placeSmall : Cond) ∈ wa_all := wa_in7 (List.mem_of_getElem? (i := 2) rfl)
theorem wm_283 : (.instanceMethod y_G_placeSmall : Cond) ∈ wa_all := wa_in7 (List.mem_of_getElem? (i := 3) rfl)
theorem wm_284 : (.code y_G_placeSmall prog_1_method_27_code 4 none : Cond) ∈ wa_all := wa_in7 (List.mem_of_getElem? (i := 4) rfl)
theorem wm_285 : (.methodLink R_G 126 y_G_takeBlock : Cond) ∈ wa_all := wa_in7 (List.mem_of_getElem? (i := 5) rfl)
theorem wm_286 : (.instanceMethod y_G_takeBlock : Cond) ∈ wa_all := wa_in7 (List.mem_of_getElem? (i := 6) rfl)
theorem wm_287 : (.code y_G_takeBlock prog_1_method_29_code 3 none : Cond) ∈ wa_all := wa_in7 (List.mem_of_getElem? (i := 7) rfl)
theorem wm_288 : (.methodLink R_G 130 y_G_placeObject : Cond) ∈ wa_all := wa_in7 (List.mem_of_getElem? (i := 8) rfl)
theorem wm_289 : (.instanceMethod y_G_placeObject : Cond) ∈ wa_all := wa_in7 (List.mem_of_getElem? (i := 9) rfl)
theorem wm_290 : (.code y_G_placeObject prog_1_method_30_code 4 none : Cond) ∈ wa_all := wa_in7 (List.mem_of_getElem? (i := 10) rfl)
theorem wm_291 : (.methodLink R_G 85 y_G_placeLarge : Cond) ∈ wa_all := wa_in7 (List.mem_of_getElem? (i := 11) rfl)
theorem wm_292 : (.instanceMethod y_G_placeLarge : Cond) ∈ wa_all := wa_in7 (List.mem_of_getElem? (i := 12) rfl)
theorem wm_293 : (.code y_G_placeLarge prog_1_method_28_code 6 none : Cond) ∈ wa_all := wa_in7 (List.mem_of_getElem? (i := 13) rfl)
theorem wm_294 : (.methodLink R_L 48 y_L_root : Cond) ∈ wa_all := wa_in7 (List.mem_of_getElem? (i := 14) rfl)
theorem wm_295 : (.static y_L_root : Cond) ∈ wa_all := wa_in7 (List.mem_of_getElem? (i := 15) rfl)
theorem wm_296 : (.codeWith y_L_root method_4_code 4 (some .int) [(0, 6, 9, 21)] : Cond) ∈ wa_all := wa_in7 (List.mem_of_getElem? (i := 16) rfl)
theorem wm_297 : (.classLink R_L 21 "java/lang/IndexOutOfBoundsException" : Cond) ∈ wa_all := wa_in7 (List.mem_of_getElem? (i := 17) rfl)
theorem wm_298 : (.methodLink R_L 17 y_G_root : Cond) ∈ wa_all := wa_in7 (List.mem_of_getElem? (i := 18) rfl)
theorem wm_299 : (.instanceMethod y_G_root : Cond) ∈ wa_all := wa_in7 (List.mem_of_getElem? (i := 19) rfl)
theorem wm_300 : (.selects R_G y_G_root y_G_root : Cond) ∈ wa_all := wa_in7 (List.mem_of_getElem? (i := 20) rfl)
theorem wm_301 : (.code y_G_root prog_1_method_3_code 3 none : Cond) ∈ wa_all := wa_in7 (List.mem_of_getElem? (i := 21) rfl)
theorem wm_302 : (.methodLink R_G 88 y_G_checkRoot : Cond) ∈ wa_all := wa_in7 (List.mem_of_getElem? (i := 22) rfl)
theorem wm_303 : (.static y_G_checkRoot : Cond) ∈ wa_all := wa_in7 (List.mem_of_getElem? (i := 23) rfl)
theorem wm_304 : (.code y_G_checkRoot prog_1_method_17_code 1 none : Cond) ∈ wa_all := wa_in7 (List.mem_of_getElem? (i := 24) rfl)
theorem wm_305 : (.classLink R_G 108 "java/lang/IndexOutOfBoundsException" : Cond) ∈ wa_all := wa_in7 (List.mem_of_getElem? (i := 25) rfl)
theorem wm_306 : (.instantiable "java/lang/IndexOutOfBoundsException" 6 : Cond) ∈ wa_all := wa_in7 (List.mem_of_getElem? (i := 26) rfl)
theorem wm_307 : (.selects "java/lang/IndexOutOfBoundsException" ⟨"java/lang/Throwable", "fillInStackTrace", "(I)Ljava/lang/Throwable;"⟩ ⟨"java/lang/Throwable", "fillInStackTrace", "(I)Ljava/lang/Throwable;"⟩ : Cond) ∈ wa_all := wa_in7 (List.mem_of_getElem? (i := 27) rfl)
theorem wm_308 : (.lays "java/lang/IndexOutOfBoundsException" "java/lang/Throwable" "cause" "Ljava/lang/Throwable;" : Cond) ∈ wa_all := wa_in7 (List.mem_of_getElem? (i := 28) rfl)
theorem wm_309 : (.lays "java/lang/IndexOutOfBoundsException" "java/lang/Throwable" "stackTrace" "[Ljava/lang/StackTraceElement;" : Cond) ∈ wa_all := wa_in7 (List.mem_of_getElem? (i := 29) rfl)
theorem wm_310 : (.lays "java/lang/IndexOutOfBoundsException" "java/lang/Throwable" "suppressedExceptions" "Ljava/util/List;" : Cond) ∈ wa_all := wa_in7 (List.mem_of_getElem? (i := 30) rfl)
theorem wm_311 : (.lays "java/lang/IndexOutOfBoundsException" "java/lang/Throwable" "detailMessage" "Ljava/lang/String;" : Cond) ∈ wa_all := wa_in7 (List.mem_of_getElem? (i := 31) rfl)
theorem wm_312 : (.lays "java/lang/IndexOutOfBoundsException" "java/lang/Throwable" "backtrace" "Ljava/lang/Object;" : Cond) ∈ wa_all := wa_in7 (List.mem_of_getElem? (i := 32) rfl)
theorem wm_313 : (.methodLink R_G 112 ⟨"java/lang/IndexOutOfBoundsException", "<init>", "(Ljava/lang/String;)V"⟩ : Cond) ∈ wa_all := wa_in7 (List.mem_of_getElem? (i := 33) rfl)
theorem wm_314 : (.lays "java/lang/IndexOutOfBoundsException" "java/lang/Throwable" "depth" "I" : Cond) ∈ wa_all := wa_in7 (List.mem_of_getElem? (i := 34) rfl)
theorem wm_315 : (.superclass "java/lang/IndexOutOfBoundsException" "java/lang/RuntimeException" : Cond) ∈ wa_all := wa_in7 (List.mem_of_getElem? (i := 35) rfl)
theorem wm_316 : (.methodLink R_L 52 y_L_rooted : Cond) ∈ wa_all := wa_in7 (List.mem_of_getElem? (i := 36) rfl)
theorem wm_317 : (.static y_L_rooted : Cond) ∈ wa_all := wa_in7 (List.mem_of_getElem? (i := 37) rfl)
theorem wm_318 : (.codeWith y_L_rooted method_5_code 4 (some .int) [(0, 9, 12, 21)] : Cond) ∈ wa_all := wa_in7 (List.mem_of_getElem? (i := 38) rfl)
theorem wm_319 : (.methodLink R_L 23 y_G_rooted : Cond) ∈ wa_all := wa_in7 (List.mem_of_getElem? (i := 39) rfl)
theorem wm_320 : (.instanceMethod y_G_rooted : Cond) ∈ wa_all := wa_in8 (List.mem_of_getElem? (i := 0) rfl)
theorem wm_321 : (.selects R_G y_G_rooted y_G_rooted : Cond) ∈ wa_all := wa_in8 (List.mem_of_getElem? (i := 1) rfl)
theorem wm_322 : (.code y_G_rooted prog_1_method_4_code 2 (some .int) : Cond) ∈ wa_all := wa_in8 (List.mem_of_getElem? (i := 2) rfl)
theorem wm_323 : (.methodLink R_L 56 y_L_read : Cond) ∈ wa_all := wa_in8 (List.mem_of_getElem? (i := 3) rfl)
theorem wm_324 : (.static y_L_read : Cond) ∈ wa_all := wa_in8 (List.mem_of_getElem? (i := 4) rfl)
theorem wm_325 : (.codeWith y_L_read method_6_code 4 (some .int) [(0, 9, 12, 21), (0, 9, 15, 15)] : Cond) ∈ wa_all := wa_in8 (List.mem_of_getElem? (i := 5) rfl)
theorem wm_326 : (.methodLink R_L 27 y_G_read : Cond) ∈ wa_all := wa_in8 (List.mem_of_getElem? (i := 6) rfl)
theorem wm_327 : (.instanceMethod y_G_read : Cond) ∈ wa_all := wa_in8 (List.mem_of_getElem? (i := 7) rfl)
theorem wm_328 : (.selects R_G y_G_read y_G_read : Cond) ∈ wa_all := wa_in8 (List.mem_of_getElem? (i := 8) rfl)
theorem wm_329 : (.code y_G_read prog_1_method_5_code 2 (some .int) : Cond) ∈ wa_all := wa_in8 (List.mem_of_getElem? (i := 9) rfl)
theorem wm_330 : (.methodLink R_G 92 y_G_checkInObject : Cond) ∈ wa_all := wa_in8 (List.mem_of_getElem? (i := 10) rfl)
theorem wm_331 : (.instanceMethod y_G_checkInObject : Cond) ∈ wa_all := wa_in8 (List.mem_of_getElem? (i := 11) rfl)
theorem wm_332 : (.code y_G_checkInObject prog_1_method_18_code 2 none : Cond) ∈ wa_all := wa_in8 (List.mem_of_getElem? (i := 12) rfl)
theorem wm_333 : (.methodLink R_L 59 y_L_write : Cond) ∈ wa_all := wa_in8 (List.mem_of_getElem? (i := 13) rfl)
theorem wm_334 : (.static y_L_write : Cond) ∈ wa_all := wa_in8 (List.mem_of_getElem? (i := 14) rfl)
theorem wm_335 : (.codeWith y_L_write method_7_code 5 (some .int) [(0, 10, 13, 21), (0, 10, 17, 15)] : Cond) ∈ wa_all := wa_in8 (List.mem_of_getElem? (i := 15) rfl)
theorem wm_336 : (.methodLink R_L 30 y_G_write : Cond) ∈ wa_all := wa_in8 (List.mem_of_getElem? (i := 16) rfl)
theorem wm_337 : (.instanceMethod y_G_write : Cond) ∈ wa_all := wa_in8 (List.mem_of_getElem? (i := 17) rfl)
theorem wm_338 : (.selects R_G y_G_write y_G_write : Cond) ∈ wa_all := wa_in8 (List.mem_of_getElem? (i := 18) rfl)
theorem wm_339 : (.code y_G_write prog_1_method_6_code 4 (some .int) : Cond) ∈ wa_all := wa_in8 (List.mem_of_getElem? (i := 19) rfl)
theorem wm_340 : (.classLink R_L 35 R_M : Cond) ∈ wa_all := wa_in8 (List.mem_of_getElem? (i := 20) rfl)
theorem wm_341 : (.instantiable R_M 11 : Cond) ∈ wa_all := wa_in8 (List.mem_of_getElem? (i := 21) rfl)
theorem wm_342 : (.methodLink R_L 37 y_M_init : Cond) ∈ wa_all := wa_in8 (List.mem_of_getElem? (i := 22) rfl)
theorem wm_343 : (.instanceMethod y_M_init : Cond) ∈ wa_all := wa_in8 (List.mem_of_getElem? (i := 23) rfl)
theorem wm_344 : (.code y_M_init prog_3_method_1_code 1 none : Cond) ∈ wa_all := wa_in8 (List.mem_of_getElem? (i := 24) rfl)
theorem wm_345 : (.methodLink R_M 1 objectInit : Cond) ∈ wa_all := wa_in8 (List.mem_of_getElem? (i := 25) rfl)
theorem wm_346 : (.fieldLink R_M 35 R_M "thrown" "I" : Cond) ∈ wa_all := wa_in8 (List.mem_of_getElem? (i := 26) rfl)
theorem wm_347 : (.fieldLink R_M 7 R_M "roots" "[I" : Cond) ∈ wa_all := wa_in8 (List.mem_of_getElem? (i := 27) rfl)
theorem wm_348 : (.fieldLink R_M 13 R_M "word" "[I" : Cond) ∈ wa_all := wa_in8 (List.mem_of_getElem? (i := 28) rfl)
theorem wm_349 : (.fieldLink R_M 16 R_M "of" "[I" : Cond) ∈ wa_all := wa_in8 (List.mem_of_getElem? (i := 29) rfl)
theorem wm_350 : (.fieldLink R_M 19 R_M "many" "[I" : Cond) ∈ wa_all := wa_in8 (List.mem_of_getElem? (i := 30) rfl)
theorem wm_351 : (.fieldLink R_M 22 R_M "quiet" "[Z" : Cond) ∈ wa_all := wa_in8 (List.mem_of_getElem? (i := 31) rfl)
theorem wm_352 : (.fieldLink R_M 26 R_M "marked" "[Z" : Cond) ∈ wa_all := wa_in8 (List.mem_of_getElem? (i := 32) rfl)
theorem wm_353 : (.fieldLink R_M 29 R_M "kind" "[I" : Cond) ∈ wa_all := wa_in8 (List.mem_of_getElem? (i := 33) rfl)
theorem wm_354 : (.fieldLink R_M 32 R_M "doubtful" "[Z" : Cond) ∈ wa_all := wa_in8 (List.mem_of_getElem? (i := 34) rfl)
theorem wm_355 : (.fieldLink R_M 53 R_M "collected" "I" : Cond) ∈ wa_all := wa_in8 (List.mem_of_getElem? (i := 35) rfl)
theorem wm_356 : (.fieldLink R_M 50 R_M "given" "I" : Cond) ∈ wa_all := wa_in8 (List.mem_of_getElem? (i := 36) rfl)
theorem wm_357 : (.lays R_M R_M "thrown" "I" : Cond) ∈ wa_all := wa_in8 (List.mem_of_getElem? (i := 37) rfl)
theorem wm_358 : (.soleField R_M "thrown" : Cond) ∈ wa_all := wa_in8 (List.mem_of_getElem? (i := 38) rfl)
theorem wm_359 : (.lays R_M R_M "roots" "[I" : Cond) ∈ wa_all := wa_in8 (List.mem_of_getElem? (i := 39) rfl)
theorem wm_360 : (.soleField R_M "roots" : Cond) ∈ wa_all := wa_in9 (List.mem_of_getElem? (i := 0) rfl)
theorem wm_361 : (.lays R_M R_M "word" "[I" : Cond) ∈ wa_all := wa_in9 (List.mem_of_getElem? (i := 1) rfl)
theorem wm_362 : (.soleField R_M "word" : Cond) ∈ wa_all := wa_in9 (List.mem_of_getElem? (i := 2) rfl)
theorem wm_363 : (.lays R_M R_M "of" "[I" : Cond) ∈ wa_all := wa_in9 (List.mem_of_getElem? (i := 3) rfl)
theorem wm_364 : (.soleField R_M "of" : Cond) ∈ wa_all := wa_in9 (List.mem_of_getElem? (i := 4) rfl)
theorem wm_365 : (.lays R_M R_M "many" "[I" : Cond) ∈ wa_all := wa_in9 (List.mem_of_getElem? (i := 5) rfl)
theorem wm_366 : (.soleField R_M "many" : Cond) ∈ wa_all := wa_in9 (List.mem_of_getElem? (i := 6) rfl)
theorem wm_367 : (.lays R_M R_M "quiet" "[Z" : Cond) ∈ wa_all := wa_in9 (List.mem_of_getElem? (i := 7) rfl)
theorem wm_368 : (.soleField R_M "quiet" : Cond) ∈ wa_all := wa_in9 (List.mem_of_getElem? (i := 8) rfl)
theorem wm_369 : (.lays R_M R_M "marked" "[Z" : Cond) ∈ wa_all := wa_in9 (List.mem_of_getElem? (i := 9) rfl)
theorem wm_370 : (.soleField R_M "marked" : Cond) ∈ wa_all := wa_in9 (List.mem_of_getElem? (i := 10) rfl)
theorem wm_371 : (.lays R_M R_M "kind" "[I" : Cond) ∈ wa_all := wa_in9 (List.mem_of_getElem? (i := 11) rfl)
theorem wm_372 : (.soleField R_M "kind" : Cond) ∈ wa_all := wa_in9 (List.mem_of_getElem? (i := 12) rfl)
theorem wm_373 : (.lays R_M R_M "doubtful" "[Z" : Cond) ∈ wa_all := wa_in9 (List.mem_of_getElem? (i := 13) rfl)
theorem wm_374 : (.soleField R_M "doubtful" : Cond) ∈ wa_all := wa_in9 (List.mem_of_getElem? (i := 14) rfl)
theorem wm_375 : (.lays R_M R_M "collected" "I" : Cond) ∈ wa_all := wa_in9 (List.mem_of_getElem? (i := 15) rfl)
theorem wm_376 : (.soleField R_M "collected" : Cond) ∈ wa_all := wa_in9 (List.mem_of_getElem? (i := 16) rfl)
theorem wm_377 : (.lays R_M R_M "given" "I" : Cond) ∈ wa_all := wa_in9 (List.mem_of_getElem? (i := 17) rfl)
theorem wm_378 : (.soleField R_M "given" : Cond) ∈ wa_all := wa_in9 (List.mem_of_getElem? (i := 18) rfl)
theorem wm_379 : (.superclass R_M "java/lang/Object" : Cond) ∈ wa_all := wa_in9 (List.mem_of_getElem? (i := 19) rfl)
theorem wm_380 : (.methodLink R_L 44 y_M_thrown : Cond) ∈ wa_all := wa_in9 (List.mem_of_getElem? (i := 20) rfl)
theorem wm_381 : (.instanceMethod y_M_thrown : Cond) ∈ wa_all := wa_in9 (List.mem_of_getElem? (i := 21) rfl)
theorem wm_382 : (.selects R_M y_M_thrown y_M_thrown : Cond) ∈ wa_all := wa_in9 (List.mem_of_getElem? (i := 22) rfl)
theorem wm_383 : (.code y_M_thrown prog_3_method_2_code 1 (some .int) : Cond) ∈ wa_all := wa_in9 (List.mem_of_getElem? (i := 23) rfl)
theorem wm_384 : (.methodLink R_L 43 y_M_allocate : Cond) ∈ wa_all := wa_in9 (List.mem_of_getElem? (i := 24) rfl)
theorem wm_385 : (.instanceMethod y_M_allocate : Cond) ∈ wa_all := wa_in9 (List.mem_of_getElem? (i := 25) rfl)
theorem wm_386 : (.selects R_M y_M_allocate y_M_allocate : Cond) ∈ wa_all := wa_in9 (List.mem_of_getElem? (i := 26) rfl)
theorem wm_387 : (.code y_M_allocate prog_3_method_16_code 4 (some .int) : Cond) ∈ wa_all := wa_in9 (List.mem_of_getElem? (i := 27) rfl)
theorem wm_388 : (.methodLink R_M 81 y_M_room : Cond) ∈ wa_all := wa_in9 (List.mem_of_getElem? (i := 28) rfl)
theorem wm_389 : (.instanceMethod y_M_room : Cond) ∈ wa_all := wa_in9 (List.mem_of_getElem? (i := 29) rfl)
theorem wm_390 : (.code y_M_room prog_3_method_14_code 3 (some .int) : Cond) ∈ wa_all := wa_in9 (List.mem_of_getElem? (i := 30) rfl)
theorem wm_391 : (.methodLink R_M 71 y_M_sizeFor : Cond) ∈ wa_all := wa_in9 (List.mem_of_getElem? (i := 31) rfl)
theorem wm_392 : (.static y_M_sizeFor : Cond) ∈ wa_all := wa_in9 (List.mem_of_getElem? (i := 32) rfl)
theorem wm_393 : (.code y_M_sizeFor prog_3_method_11_code 1 (some .int) : Cond) ∈ wa_all := wa_in9 (List.mem_of_getElem? (i := 33) rfl)
theorem wm_394 : (.methodLink R_M 74 y_M_smallRoom : Cond) ∈ wa_all := wa_in9 (List.mem_of_getElem? (i := 34) rfl)
theorem wm_395 : (.instanceMethod y_M_smallRoom : Cond) ∈ wa_all := wa_in9 (List.mem_of_getElem? (i := 35) rfl)
theorem wm_396 : (.code y_M_smallRoom prog_3_method_12_code 4 (some .int) : Cond) ∈ wa_all := wa_in9 (List.mem_of_getElem? (i := 36) rfl)
theorem wm_397 : (.methodLink R_M 67 y_M_isOpen : Cond) ∈ wa_all := wa_in9 (List.mem_of_getElem? (i := 37) rfl)
theorem wm_398 : (.instanceMethod y_M_isOpen : Cond) ∈ wa_all := wa_in9 (List.mem_of_getElem? (i := 38) rfl)
theorem wm_399 : (.code y_M_isOpen prog_3_method_10_code 3 (some .boolean) : Cond) ∈ wa_all := wa_in9 (List.mem_of_getElem? (i := 39) rfl)
theorem wm_400 : (.methodLink R_M 78 y_M_largeRoom : Cond) ∈ wa_all := wa_in10 (List.mem_of_getElem? (i := 0) rfl)
theorem wm_401 : (.instanceMethod y_M_largeRoom : Cond) ∈ wa_all := wa_in10 (List.mem_of_getElem? (i := 1) rfl)
theorem wm_402 : (.code y_M_largeRoom prog_3_method_13_code 6 (some .int) : Cond) ∈ wa_all := wa_in10 (List.mem_of_getElem? (i := 2) rfl)
theorem wm_403 : (.methodLink R_M 84 y_M_gather : Cond) ∈ wa_all := wa_in10 (List.mem_of_getElem? (i := 3) rfl)
theorem wm_404 : (.instanceMethod y_M_gather : Cond) ∈ wa_all := wa_in10 (List.mem_of_getElem? (i := 4) rfl)
theorem wm_405 : (.code y_M_gather prog_3_method_9_code 3 none : Cond) ∈ wa_all := wa_in10 (List.mem_of_getElem? (i := 5) rfl)
theorem wm_406 : (.methodLink R_M 56 y_M_lookAtAll : Cond) ∈ wa_all := wa_in10 (List.mem_of_getElem? (i := 6) rfl)
theorem wm_407 : (.instanceMethod y_M_lookAtAll : Cond) ∈ wa_all := wa_in10 (List.mem_of_getElem? (i := 7) rfl)
theorem wm_408 : (.code y_M_lookAtAll prog_3_method_6_code 5 (some .boolean) : Cond) ∈ wa_all := wa_in10 (List.mem_of_getElem? (i := 8) rfl)
theorem wm_409 : (.methodLink R_M 47 y_M_look : Cond) ∈ wa_all := wa_in10 (List.mem_of_getElem? (i := 9) rfl)
theorem wm_410 : (.instanceMethod y_M_look : Cond) ∈ wa_all := wa_in10 (List.mem_of_getElem? (i := 10) rfl)
theorem wm_411 : (.code y_M_look prog_3_method_5_code 4 (some .boolean) : Cond) ∈ wa_all := wa_in10 (List.mem_of_getElem? (i := 11) rfl)
theorem wm_412 : (.methodLink R_M 39 y_M_isAddress : Cond) ∈ wa_all := wa_in10 (List.mem_of_getElem? (i := 12) rfl)
theorem wm_413 : (.static y_M_isAddress : Cond) ∈ wa_all := wa_in10 (List.mem_of_getElem? (i := 13) rfl)
theorem wm_414 : (.code y_M_isAddress prog_3_method_3_code 1 (some .boolean) : Cond) ∈ wa_all := wa_in10 (List.mem_of_getElem? (i := 14) rfl)
theorem wm_415 : (.methodLink R_M 43 y_M_objectAt : Cond) ∈ wa_all := wa_in10 (List.mem_of_getElem? (i := 15) rfl)
theorem wm_416 : (.instanceMethod y_M_objectAt : Cond) ∈ wa_all := wa_in10 (List.mem_of_getElem? (i := 16) rfl)
theorem wm_417 : (.code y_M_objectAt prog_3_method_4_code 2 (some .int) : Cond) ∈ wa_all := wa_in10 (List.mem_of_getElem? (i := 17) rfl)
theorem wm_418 : (.methodLink R_M 60 y_M_giveUp : Cond) ∈ wa_all := wa_in10 (List.mem_of_getElem? (i := 18) rfl)
theorem wm_419 : (.instanceMethod y_M_giveUp : Cond) ∈ wa_all := wa_in10 (List.mem_of_getElem? (i := 19) rfl)
theorem wm_420 : (.code y_M_giveUp prog_3_method_7_code 4 none : Cond) ∈ wa_all := wa_in10 (List.mem_of_getElem? (i := 20) rfl)
theorem wm_421 : (.methodLink R_M 64 y_M_isBare : Cond) ∈ wa_all := wa_in10 (List.mem_of_getElem? (i := 21) rfl)
theorem wm_422 : (.instanceMethod y_M_isBare : Cond) ∈ wa_all := wa_in10 (List.mem_of_getElem? (i := 22) rfl)
theorem wm_423 : (.code y_M_isBare prog_3_method_8_code 4 (some .boolean) : Cond) ∈ wa_all := wa_in10 (List.mem_of_getElem? (i := 23) rfl)
theorem wm_424 : (.methodLink R_M 87 y_M_settle : Cond) ∈ wa_all := wa_in10 (List.mem_of_getElem? (i := 24) rfl)
theorem wm_425 : (.instanceMethod y_M_settle : Cond) ∈ wa_all := wa_in10 (List.mem_of_getElem? (i := 25) rfl)
theorem wm_426 : (.code y_M_settle prog_3_method_15_code 6 none : Cond) ∈ wa_all := wa_in10 (List.mem_of_getElem? (i := 26) rfl)
theorem wm_427 : (.methodLink R_L 66 y_M_collect : Cond) ∈ wa_all := wa_in10 (List.mem_of_getElem? (i := 27) rfl)
theorem wm_428 : (.instanceMethod y_M_collect : Cond) ∈ wa_all := wa_in10 (List.mem_of_getElem? (i := 28) rfl)
theorem wm_429 : (.selects R_M y_M_collect y_M_collect : Cond) ∈ wa_all := wa_in10 (List.mem_of_getElem? (i := 29) rfl)
theorem wm_430 : (.code y_M_collect prog_3_method_17_code 1 (some .int) : Cond) ∈ wa_all := wa_in10 (List.mem_of_getElem? (i := 30) rfl)
theorem wm_431 : (.methodLink R_L 51 y_M_root : Cond) ∈ wa_all := wa_in10 (List.mem_of_getElem? (i := 31) rfl)
theorem wm_432 : (.instanceMethod y_M_root : Cond) ∈ wa_all := wa_in10 (List.mem_of_getElem? (i := 32) rfl)
theorem wm_433 : (.selects R_M y_M_root y_M_root : Cond) ∈ wa_all := wa_in10 (List.mem_of_getElem? (i := 33) rfl)
theorem wm_434 : (.code y_M_root prog_3_method_18_code 3 none : Cond) ∈ wa_all := wa_in10 (List.mem_of_getElem? (i := 34) rfl)
theorem wm_435 : (.methodLink R_L 55 y_M_rooted : Cond) ∈ wa_all := wa_in10 (List.mem_of_getElem? (i := 35) rfl)
theorem wm_436 : (.instanceMethod y_M_rooted : Cond) ∈ wa_all := wa_in10 (List.mem_of_getElem? (i := 36) rfl)
theorem wm_437 : (.selects R_M y_M_rooted y_M_rooted : Cond) ∈ wa_all := wa_in10 (List.mem_of_getElem? (i := 37) rfl)
theorem wm_438 : (.code y_M_rooted prog_3_method_19_code 2 (some .int) : Cond) ∈ wa_all := wa_in10 (List.mem_of_getElem? (i := 38) rfl)
theorem wm_439 : (.methodLink R_L 58 y_M_read : Cond) ∈ wa_all := wa_in10 (List.mem_of_getElem? (i := 39) rfl)
theorem wm_440 : (.instanceMethod y_M_read : Cond) ∈ wa_all := wa_in11 (List.mem_of_getElem? (i := 0) rfl)
theorem wm_441 : (.selects R_M y_M_read y_M_read : Cond) ∈ wa_all := wa_in11 (List.mem_of_getElem? (i := 1) rfl)
theorem wm_442 : (.code y_M_read prog_3_method_21_code 2 (some .int) : Cond) ∈ wa_all := wa_in11 (List.mem_of_getElem? (i := 2) rfl)
theorem wm_443 : (.methodLink R_M 91 y_M_bar : Cond) ∈ wa_all := wa_in11 (List.mem_of_getElem? (i := 3) rfl)
theorem wm_444 : (.instanceMethod y_M_bar : Cond) ∈ wa_all := wa_in11 (List.mem_of_getElem? (i := 4) rfl)
theorem wm_445 : (.code y_M_bar prog_3_method_20_code 2 (some .int) : Cond) ∈ wa_all := wa_in11 (List.mem_of_getElem? (i := 5) rfl)
theorem wm_446 : (.methodLink R_L 62 y_M_write : Cond) ∈ wa_all := wa_in11 (List.mem_of_getElem? (i := 6) rfl)
theorem wm_447 : (.instanceMethod y_M_write : Cond) ∈ wa_all := wa_in11 (List.mem_of_getElem? (i := 7) rfl)
theorem wm_448 : (.selects R_M y_M_write y_M_write : Cond) ∈ wa_all := wa_in11 (List.mem_of_getElem? (i := 8) rfl)
theorem wm_449 : (.code y_M_write prog_3_method_22_code 4 (some .int) : Cond) ∈ wa_all := wa_in11 (List.mem_of_getElem? (i := 9) rfl)
theorem wm_450 : (.methodLink R_L 70 y_M_base : Cond) ∈ wa_all := wa_in11 (List.mem_of_getElem? (i := 10) rfl)
theorem wm_451 : (.instanceMethod y_M_base : Cond) ∈ wa_all := wa_in11 (List.mem_of_getElem? (i := 11) rfl)
theorem wm_452 : (.selects R_M y_M_base y_M_base : Cond) ∈ wa_all := wa_in11 (List.mem_of_getElem? (i := 12) rfl)
theorem wm_453 : (.code y_M_base prog_3_method_23_code 3 (some .int) : Cond) ∈ wa_all := wa_in11 (List.mem_of_getElem? (i := 13) rfl)
theorem wm_454 : (.methodLink R_L 74 y_M_size : Cond) ∈ wa_all := wa_in11 (List.mem_of_getElem? (i := 14) rfl)
theorem wm_455 : (.instanceMethod y_M_size : Cond) ∈ wa_all := wa_in11 (List.mem_of_getElem? (i := 15) rfl)
theorem wm_456 : (.selects R_M y_M_size y_M_size : Cond) ∈ wa_all := wa_in11 (List.mem_of_getElem? (i := 16) rfl)
theorem wm_457 : (.code y_M_size prog_3_method_24_code 3 (some .int) : Cond) ∈ wa_all := wa_in11 (List.mem_of_getElem? (i := 17) rfl)
theorem wm_458 : (.methodLink R_L 79 y_M_silent : Cond) ∈ wa_all := wa_in11 (List.mem_of_getElem? (i := 18) rfl)
theorem wm_459 : (.instanceMethod y_M_silent : Cond) ∈ wa_all := wa_in11 (List.mem_of_getElem? (i := 19) rfl)
theorem wm_460 : (.selects R_M y_M_silent y_M_silent : Cond) ∈ wa_all := wa_in11 (List.mem_of_getElem? (i := 20) rfl)
theorem wm_461 : (.code y_M_silent prog_3_method_25_code 3 (some .boolean) : Cond) ∈ wa_all := wa_in11 (List.mem_of_getElem? (i := 21) rfl)
theorem wm_462 : (.methodLink R_L 83 y_M_block : Cond) ∈ wa_all := wa_in11 (List.mem_of_getElem? (i := 22) rfl)
theorem wm_463 : (.instanceMethod y_M_block : Cond) ∈ wa_all := wa_in11 (List.mem_of_getElem? (i := 23) rfl)
theorem wm_464 : (.selects R_M y_M_block y_M_block : Cond) ∈ wa_all := wa_in11 (List.mem_of_getElem? (i := 24) rfl)
theorem wm_465 : (.code y_M_block prog_3_method_26_code 2 (some .int) : Cond) ∈ wa_all := wa_in11 (List.mem_of_getElem? (i := 25) rfl)
theorem wm_466 : (.methodLink R_L 87 y_M_empty : Cond) ∈ wa_all := wa_in11 (List.mem_of_getElem? (i := 26) rfl)
theorem wm_467 : (.instanceMethod y_M_empty : Cond) ∈ wa_all := wa_in11 (List.mem_of_getElem? (i := 27) rfl)
theorem wm_468 : (.selects R_M y_M_empty y_M_empty : Cond) ∈ wa_all := wa_in11 (List.mem_of_getElem? (i := 28) rfl)
theorem wm_469 : (.code y_M_empty prog_3_method_27_code 4 (some .int) : Cond) ∈ wa_all := wa_in11 (List.mem_of_getElem? (i := 29) rfl)
theorem wm_470 : (.methodLink R_L 91 y_M_objects : Cond) ∈ wa_all := wa_in11 (List.mem_of_getElem? (i := 30) rfl)
theorem wm_471 : (.instanceMethod y_M_objects : Cond) ∈ wa_all := wa_in11 (List.mem_of_getElem? (i := 31) rfl)
theorem wm_472 : (.selects R_M y_M_objects y_M_objects : Cond) ∈ wa_all := wa_in11 (List.mem_of_getElem? (i := 32) rfl)
theorem wm_473 : (.code y_M_objects prog_3_method_28_code 3 (some .int) : Cond) ∈ wa_all := wa_in11 (List.mem_of_getElem? (i := 33) rfl)
theorem wm_474 : (.methodLink R_L 95 y_M_collections : Cond) ∈ wa_all := wa_in11 (List.mem_of_getElem? (i := 34) rfl)
theorem wm_475 : (.instanceMethod y_M_collections : Cond) ∈ wa_all := wa_in11 (List.mem_of_getElem? (i := 35) rfl)
theorem wm_476 : (.selects R_M y_M_collections y_M_collections : Cond) ∈ wa_all := wa_in11 (List.mem_of_getElem? (i := 36) rfl)
theorem wm_477 : (.code y_M_collections prog_3_method_29_code 1 (some .int) : Cond) ∈ wa_all := wa_in11 (List.mem_of_getElem? (i := 37) rfl)
theorem wm_478 : (.arrayClass .long : Cond) ∈ wa_all := wa_in11 (List.mem_of_getElem? (i := 38) rfl)
theorem wm_479 : (.sameMethod "java/lang/Throwable" "java/lang/Throwable" "fillInStackTrace" "(I)Ljava/lang/Throwable;" : Cond) ∈ wa_all := wa_in11 (List.mem_of_getElem? (i := 39) rfl)
