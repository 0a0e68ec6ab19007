section
-- ===== PART A: goes FIRST, ahead of the names: the tables' words, and 'selects' of the private methods out of them =====
/-- a private method of a class that the tables say can be made, by its rows of tables_1 -/
def lw_okq (q : MethodName × Nat) : Prop := (q.1.cls ≠ "java/lang/invoke/MethodHandle" ∧ q.1.cls ≠ "java/lang/invoke/VarHandle") ∧ Cond.instantiable q.1.cls q.2 ∈ tables_1 ∧ Cond.privateMethod q.1 ∈ tables_1 ∧ Cond.instanceMethod q.1 ∈ tables_1
theorem lw_p0 : lw_okq (⟨"GuessingHeap", "collectNow", "()I"⟩, 12) := ⟨⟨by decide +kernel, by decide +kernel⟩, List.mem_of_getElem? (i := 22) (by decide +kernel), List.mem_of_getElem? (i := 76) (by decide +kernel), List.mem_of_getElem? (i := 77) (by decide +kernel)⟩
theorem lw_p1 : lw_okq (⟨"GuessingHeap", "forgetMarks", "()V"⟩, 12) := ⟨⟨by decide +kernel, by decide +kernel⟩, List.mem_of_getElem? (i := 22) (by decide +kernel), List.mem_of_getElem? (i := 80) (by decide +kernel), List.mem_of_getElem? (i := 81) (by decide +kernel)⟩
theorem lw_p2 : lw_okq (⟨"GuessingHeap", "lookAtRoots", "()V"⟩, 12) := ⟨⟨by decide +kernel, by decide +kernel⟩, List.mem_of_getElem? (i := 22) (by decide +kernel), List.mem_of_getElem? (i := 84) (by decide +kernel), List.mem_of_getElem? (i := 85) (by decide +kernel)⟩
theorem lw_p3 : lw_okq (⟨"GuessingHeap", "lookAt", "(I)V"⟩, 12) := ⟨⟨by decide +kernel, by decide +kernel⟩, List.mem_of_getElem? (i := 22) (by decide +kernel), List.mem_of_getElem? (i := 88) (by decide +kernel), List.mem_of_getElem? (i := 89) (by decide +kernel)⟩
theorem lw_p4 : lw_okq (⟨"GuessingHeap", "startAt", "(I)I"⟩, 12) := ⟨⟨by decide +kernel, by decide +kernel⟩, List.mem_of_getElem? (i := 22) (by decide +kernel), List.mem_of_getElem? (i := 95) (by decide +kernel), List.mem_of_getElem? (i := 96) (by decide +kernel)⟩
theorem lw_p5 : lw_okq (⟨"GuessingHeap", "mark", "(I)V"⟩, 12) := ⟨⟨by decide +kernel, by decide +kernel⟩, List.mem_of_getElem? (i := 22) (by decide +kernel), List.mem_of_getElem? (i := 99) (by decide +kernel), List.mem_of_getElem? (i := 100) (by decide +kernel)⟩
theorem lw_p6 : lw_okq (⟨"GuessingHeap", "lookAtMarkedObjects", "()V"⟩, 12) := ⟨⟨by decide +kernel, by decide +kernel⟩, List.mem_of_getElem? (i := 22) (by decide +kernel), List.mem_of_getElem? (i := 103) (by decide +kernel), List.mem_of_getElem? (i := 104) (by decide +kernel)⟩
theorem lw_p7 : lw_okq (⟨"GuessingHeap", "lookAtWords", "(II)V"⟩, 12) := ⟨⟨by decide +kernel, by decide +kernel⟩, List.mem_of_getElem? (i := 22) (by decide +kernel), List.mem_of_getElem? (i := 107) (by decide +kernel), List.mem_of_getElem? (i := 108) (by decide +kernel)⟩
theorem lw_p8 : lw_okq (⟨"GuessingHeap", "giveUpUnmarkedObjects", "()V"⟩, 12) := ⟨⟨by decide +kernel, by decide +kernel⟩, List.mem_of_getElem? (i := 22) (by decide +kernel), List.mem_of_getElem? (i := 111) (by decide +kernel), List.mem_of_getElem? (i := 112) (by decide +kernel)⟩
theorem lw_p9 : lw_okq (⟨"GuessingHeap", "giveUp", "(II)V"⟩, 12) := ⟨⟨by decide +kernel, by decide +kernel⟩, List.mem_of_getElem? (i := 22) (by decide +kernel), List.mem_of_getElem? (i := 115) (by decide +kernel), List.mem_of_getElem? (i := 116) (by decide +kernel)⟩
theorem lw_p10 : lw_okq (⟨"java/lang/Throwable", "fillInStackTrace", "(I)Ljava/lang/Throwable;"⟩, 6) := ⟨⟨by decide +kernel, by decide +kernel⟩, List.mem_of_getElem? (i := 164) (by decide +kernel), List.mem_of_getElem? (i := 162) (by decide +kernel), List.mem_of_getElem? (i := 163) (by decide +kernel)⟩
theorem lw_p11 : lw_okq (⟨"GuessingHeap", "freeBlocksWithoutObjects", "()V"⟩, 12) := ⟨⟨by decide +kernel, by decide +kernel⟩, List.mem_of_getElem? (i := 22) (by decide +kernel), List.mem_of_getElem? (i := 455) (by decide +kernel), List.mem_of_getElem? (i := 456) (by decide +kernel)⟩
theorem lw_p12 : lw_okq (⟨"GuessingHeap", "wordsInNoObject", "(I)I"⟩, 12) := ⟨⟨by decide +kernel, by decide +kernel⟩, List.mem_of_getElem? (i := 22) (by decide +kernel), List.mem_of_getElem? (i := 459) (by decide +kernel), List.mem_of_getElem? (i := 460) (by decide +kernel)⟩
theorem lw_p13 : lw_okq (⟨"GuessingHeap", "isSplit", "(I)Z"⟩, 12) := ⟨⟨by decide +kernel, by decide +kernel⟩, List.mem_of_getElem? (i := 22) (by decide +kernel), List.mem_of_getElem? (i := 486) (by decide +kernel), List.mem_of_getElem? (i := 487) (by decide +kernel)⟩
theorem lw_p14 : lw_okq (⟨"GuessingHeap", "findRoom", "(IZ)I"⟩, 12) := ⟨⟨by decide +kernel, by decide +kernel⟩, List.mem_of_getElem? (i := 22) (by decide +kernel), List.mem_of_getElem? (i := 510) (by decide +kernel), List.mem_of_getElem? (i := 511) (by decide +kernel)⟩
theorem lw_p15 : lw_okq (⟨"GuessingHeap", "findBlocks", "(IZ)I"⟩, 12) := ⟨⟨by decide +kernel, by decide +kernel⟩, List.mem_of_getElem? (i := 22) (by decide +kernel), List.mem_of_getElem? (i := 517) (by decide +kernel), List.mem_of_getElem? (i := 518) (by decide +kernel)⟩
def lw_privs_1 : List (MethodName × Nat) := [(⟨"GuessingHeap", "collectNow", "()I"⟩, 12), (⟨"GuessingHeap", "forgetMarks", "()V"⟩, 12), (⟨"GuessingHeap", "lookAtRoots", "()V"⟩, 12), (⟨"GuessingHeap", "lookAt", "(I)V"⟩, 12), (⟨"GuessingHeap", "startAt", "(I)I"⟩, 12), (⟨"GuessingHeap", "mark", "(I)V"⟩, 12), (⟨"GuessingHeap", "lookAtMarkedObjects", "()V"⟩, 12), (⟨"GuessingHeap", "lookAtWords", "(II)V"⟩, 12), (⟨"GuessingHeap", "giveUpUnmarkedObjects", "()V"⟩, 12), (⟨"GuessingHeap", "giveUp", "(II)V"⟩, 12), (⟨"java/lang/Throwable", "fillInStackTrace", "(I)Ljava/lang/Throwable;"⟩, 6), (⟨"GuessingHeap", "freeBlocksWithoutObjects", "()V"⟩, 12), (⟨"GuessingHeap", "wordsInNoObject", "(I)I"⟩, 12), (⟨"GuessingHeap", "isSplit", "(I)Z"⟩, 12), (⟨"GuessingHeap", "findRoom", "(IZ)I"⟩, 12), (⟨"GuessingHeap", "findBlocks", "(IZ)I"⟩, 12)]
theorem lw_r1 : ∀ q ∈ lw_privs_1, lw_okq q := List.forall_mem_cons.mpr ⟨lw_p0, List.forall_mem_cons.mpr ⟨lw_p1, List.forall_mem_cons.mpr ⟨lw_p2, List.forall_mem_cons.mpr ⟨lw_p3, List.forall_mem_cons.mpr ⟨lw_p4, List.forall_mem_cons.mpr ⟨lw_p5, List.forall_mem_cons.mpr ⟨lw_p6, List.forall_mem_cons.mpr ⟨lw_p7, List.forall_mem_cons.mpr ⟨lw_p8, List.forall_mem_cons.mpr ⟨lw_p9, List.forall_mem_cons.mpr ⟨lw_p10, List.forall_mem_cons.mpr ⟨lw_p11, List.forall_mem_cons.mpr ⟨lw_p12, List.forall_mem_cons.mpr ⟨lw_p13, List.forall_mem_cons.mpr ⟨lw_p14, List.forall_mem_cons.mpr ⟨lw_p15, fun _ h => absurd h List.not_mem_nil⟩⟩⟩⟩⟩⟩⟩⟩⟩⟩⟩⟩⟩⟩⟩⟩
theorem lw_p16 : lw_okq (⟨"GuessingHeap", "findEmptySlot", "(I)I"⟩, 12) := ⟨⟨by decide +kernel, by decide +kernel⟩, List.mem_of_getElem? (i := 22) (by decide +kernel), List.mem_of_getElem? (i := 524) (by decide +kernel), List.mem_of_getElem? (i := 525) (by decide +kernel)⟩
theorem lw_p17 : lw_okq (⟨"GuessingHeap", "placeSmall", "(IIZ)V"⟩, 12) := ⟨⟨by decide +kernel, by decide +kernel⟩, List.mem_of_getElem? (i := 22) (by decide +kernel), List.mem_of_getElem? (i := 544) (by decide +kernel), List.mem_of_getElem? (i := 545) (by decide +kernel)⟩
theorem lw_p18 : lw_okq (⟨"GuessingHeap", "takeBlock", "(II)V"⟩, 12) := ⟨⟨by decide +kernel, by decide +kernel⟩, List.mem_of_getElem? (i := 22) (by decide +kernel), List.mem_of_getElem? (i := 548) (by decide +kernel), List.mem_of_getElem? (i := 549) (by decide +kernel)⟩
theorem lw_p19 : lw_okq (⟨"GuessingHeap", "placeObject", "(IIZ)V"⟩, 12) := ⟨⟨by decide +kernel, by decide +kernel⟩, List.mem_of_getElem? (i := 22) (by decide +kernel), List.mem_of_getElem? (i := 552) (by decide +kernel), List.mem_of_getElem? (i := 553) (by decide +kernel)⟩
theorem lw_p20 : lw_okq (⟨"GuessingHeap", "placeLarge", "(IIZ)V"⟩, 12) := ⟨⟨by decide +kernel, by decide +kernel⟩, List.mem_of_getElem? (i := 22) (by decide +kernel), List.mem_of_getElem? (i := 556) (by decide +kernel), List.mem_of_getElem? (i := 557) (by decide +kernel)⟩
theorem lw_p21 : lw_okq (⟨"GuessingHeap", "checkInObject", "(I)V"⟩, 12) := ⟨⟨by decide +kernel, by decide +kernel⟩, List.mem_of_getElem? (i := 22) (by decide +kernel), List.mem_of_getElem? (i := 598) (by decide +kernel), List.mem_of_getElem? (i := 599) (by decide +kernel)⟩
theorem lw_p22 : lw_okq (⟨"GuessingHeapModel", "room", "(IZ)I"⟩, 11) := ⟨⟨by decide +kernel, by decide +kernel⟩, List.mem_of_getElem? (i := 611) (by decide +kernel), List.mem_of_getElem? (i := 659) (by decide +kernel), List.mem_of_getElem? (i := 660) (by decide +kernel)⟩
theorem lw_p23 : lw_okq (⟨"GuessingHeapModel", "smallRoom", "(IZ)I"⟩, 11) := ⟨⟨by decide +kernel, by decide +kernel⟩, List.mem_of_getElem? (i := 611) (by decide +kernel), List.mem_of_getElem? (i := 666) (by decide +kernel), List.mem_of_getElem? (i := 667) (by decide +kernel)⟩
theorem lw_p24 : lw_okq (⟨"GuessingHeapModel", "isOpen", "(IZ)Z"⟩, 11) := ⟨⟨by decide +kernel, by decide +kernel⟩, List.mem_of_getElem? (i := 611) (by decide +kernel), List.mem_of_getElem? (i := 670) (by decide +kernel), List.mem_of_getElem? (i := 671) (by decide +kernel)⟩
theorem lw_p25 : lw_okq (⟨"GuessingHeapModel", "largeRoom", "(IZ)I"⟩, 11) := ⟨⟨by decide +kernel, by decide +kernel⟩, List.mem_of_getElem? (i := 611) (by decide +kernel), List.mem_of_getElem? (i := 674) (by decide +kernel), List.mem_of_getElem? (i := 675) (by decide +kernel)⟩
theorem lw_p26 : lw_okq (⟨"GuessingHeapModel", "gather", "()V"⟩, 11) := ⟨⟨by decide +kernel, by decide +kernel⟩, List.mem_of_getElem? (i := 611) (by decide +kernel), List.mem_of_getElem? (i := 678) (by decide +kernel), List.mem_of_getElem? (i := 679) (by decide +kernel)⟩
theorem lw_p27 : lw_okq (⟨"GuessingHeapModel", "lookAtAll", "()Z"⟩, 11) := ⟨⟨by decide +kernel, by decide +kernel⟩, List.mem_of_getElem? (i := 611) (by decide +kernel), List.mem_of_getElem? (i := 682) (by decide +kernel), List.mem_of_getElem? (i := 683) (by decide +kernel)⟩
theorem lw_p28 : lw_okq (⟨"GuessingHeapModel", "look", "(I)Z"⟩, 11) := ⟨⟨by decide +kernel, by decide +kernel⟩, List.mem_of_getElem? (i := 611) (by decide +kernel), List.mem_of_getElem? (i := 686) (by decide +kernel), List.mem_of_getElem? (i := 687) (by decide +kernel)⟩
theorem lw_p29 : lw_okq (⟨"GuessingHeapModel", "objectAt", "(I)I"⟩, 11) := ⟨⟨by decide +kernel, by decide +kernel⟩, List.mem_of_getElem? (i := 611) (by decide +kernel), List.mem_of_getElem? (i := 693) (by decide +kernel), List.mem_of_getElem? (i := 694) (by decide +kernel)⟩
theorem lw_p30 : lw_okq (⟨"GuessingHeapModel", "giveUp", "(I)V"⟩, 11) := ⟨⟨by decide +kernel, by decide +kernel⟩, List.mem_of_getElem? (i := 611) (by decide +kernel), List.mem_of_getElem? (i := 697) (by decide +kernel), List.mem_of_getElem? (i := 698) (by decide +kernel)⟩
theorem lw_p31 : lw_okq (⟨"GuessingHeapModel", "isBare", "(I)Z"⟩, 11) := ⟨⟨by decide +kernel, by decide +kernel⟩, List.mem_of_getElem? (i := 611) (by decide +kernel), List.mem_of_getElem? (i := 701) (by decide +kernel), List.mem_of_getElem? (i := 702) (by decide +kernel)⟩
def lw_privs_2 : List (MethodName × Nat) := [(⟨"GuessingHeap", "findEmptySlot", "(I)I"⟩, 12), (⟨"GuessingHeap", "placeSmall", "(IIZ)V"⟩, 12), (⟨"GuessingHeap", "takeBlock", "(II)V"⟩, 12), (⟨"GuessingHeap", "placeObject", "(IIZ)V"⟩, 12), (⟨"GuessingHeap", "placeLarge", "(IIZ)V"⟩, 12), (⟨"GuessingHeap", "checkInObject", "(I)V"⟩, 12), (⟨"GuessingHeapModel", "room", "(IZ)I"⟩, 11), (⟨"GuessingHeapModel", "smallRoom", "(IZ)I"⟩, 11), (⟨"GuessingHeapModel", "isOpen", "(IZ)Z"⟩, 11), (⟨"GuessingHeapModel", "largeRoom", "(IZ)I"⟩, 11), (⟨"GuessingHeapModel", "gather", "()V"⟩, 11), (⟨"GuessingHeapModel", "lookAtAll", "()Z"⟩, 11), (⟨"GuessingHeapModel", "look", "(I)Z"⟩, 11), (⟨"GuessingHeapModel", "objectAt", "(I)I"⟩, 11), (⟨"GuessingHeapModel", "giveUp", "(I)V"⟩, 11), (⟨"GuessingHeapModel", "isBare", "(I)Z"⟩, 11)]
theorem lw_r2 : ∀ q ∈ lw_privs_2, lw_okq q := List.forall_mem_cons.mpr ⟨lw_p16, List.forall_mem_cons.mpr ⟨lw_p17, List.forall_mem_cons.mpr ⟨lw_p18, List.forall_mem_cons.mpr ⟨lw_p19, List.forall_mem_cons.mpr ⟨lw_p20, List.forall_mem_cons.mpr ⟨lw_p21, List.forall_mem_cons.mpr ⟨lw_p22, List.forall_mem_cons.mpr ⟨lw_p23, List.forall_mem_cons.mpr ⟨lw_p24, List.forall_mem_cons.mpr ⟨lw_p25, List.forall_mem_cons.mpr ⟨lw_p26, List.forall_mem_cons.mpr ⟨lw_p27, List.forall_mem_cons.mpr ⟨lw_p28, List.forall_mem_cons.mpr ⟨lw_p29, List.forall_mem_cons.mpr ⟨lw_p30, List.forall_mem_cons.mpr ⟨lw_p31, fun _ h => absurd h List.not_mem_nil⟩⟩⟩⟩⟩⟩⟩⟩⟩⟩⟩⟩⟩⟩⟩⟩
theorem lw_p32 : lw_okq (⟨"GuessingHeapModel", "settle", "(IIZ)V"⟩, 11) := ⟨⟨by decide +kernel, by decide +kernel⟩, List.mem_of_getElem? (i := 611) (by decide +kernel), List.mem_of_getElem? (i := 705) (by decide +kernel), List.mem_of_getElem? (i := 706) (by decide +kernel)⟩
theorem lw_p33 : lw_okq (⟨"GuessingHeapModel", "bar", "(I)I"⟩, 11) := ⟨⟨by decide +kernel, by decide +kernel⟩, List.mem_of_getElem? (i := 611) (by decide +kernel), List.mem_of_getElem? (i := 725) (by decide +kernel), List.mem_of_getElem? (i := 726) (by decide +kernel)⟩
def lw_privs_3 : List (MethodName × Nat) := [(⟨"GuessingHeapModel", "settle", "(IIZ)V"⟩, 11), (⟨"GuessingHeapModel", "bar", "(I)I"⟩, 11)]
theorem lw_r3 : ∀ q ∈ lw_privs_3, lw_okq q := List.forall_mem_cons.mpr ⟨lw_p32, List.forall_mem_cons.mpr ⟨lw_p33, fun _ h => absurd h List.not_mem_nil⟩⟩
def lw_privs : List (MethodName × Nat) := lw_privs_1 ++ (lw_privs_2 ++ (lw_privs_3))
def lw_tbl : List Cond := k2_sels lw_privs ++ tables_1
theorem lw_privs_ok : ∀ q ∈ lw_privs, lw_okq q := by
  show ∀ q ∈ lw_privs_1 ++ (lw_privs_2 ++ (lw_privs_3)), lw_okq q
  exact List.forall_mem_append.mpr ⟨lw_r1, List.forall_mem_append.mpr ⟨lw_r2, lw_r3⟩⟩
end
section
/-! names: classes, fields, methods, the words that serve all methods; written by a program out of the tables and javap's listing -/
def R_L : String := "GuessingHeapLaw"
def R_G : String := "GuessingHeap"
def R_M : String := "GuessingHeapModel"
def R_A : String := "java/util/Arrays"
def F_G : u_T := fun k => match k with
  | 0 => ("GuessingHeap", "roots", "[I", true)
  | 1 => ("GuessingHeap", "kinds", "[I", true)
  | 2 => ("GuessingHeap", "doubtful", "[Z", true)
  | 3 => ("GuessingHeap", "words", "[I", true)
  | 4 => ("GuessingHeap", "starts", "[I", true)
  | 5 => ("GuessingHeap", "lengths", "[I", true)
  | 6 => ("GuessingHeap", "unread", "[Z", true)
  | 7 => ("GuessingHeap", "marked", "[Z", true)
  | 8 => ("GuessingHeap", "found", "[I", true)
  | 9 => ("GuessingHeap", "foundCount", "I", false)
  | 10 => ("GuessingHeap", "objectCount", "I", false)
  | _ => ("GuessingHeap", "collectionCount", "I", false)
def t_G : Nat → FieldType := fun k => match k with
  | 0 => .array .int
  | 1 => .array .int
  | 2 => .array .boolean
  | 3 => .array .int
  | 4 => .array .int
  | 5 => .array .int
  | 6 => .array .boolean
  | 7 => .array .boolean
  | 8 => .array .int
  | 9 => .int
  | 10 => .int
  | _ => .int
theorem n_G_ne : ∀ a, a < 12 → ∀ b, b < 12 → a ≠ b → (F_G a).2.1 ≠ (F_G b).2.1 := by decide +kernel
theorem t_G_ok : ∀ k, k < 12 → parseFieldDescriptor (F_G k).2.2.1 = some (t_G k) := by decide +kernel
def F_M : u_T := fun k => match k with
  | 0 => ("GuessingHeapModel", "thrown", "I", false)
  | 1 => ("GuessingHeapModel", "roots", "[I", false)
  | 2 => ("GuessingHeapModel", "word", "[I", false)
  | 3 => ("GuessingHeapModel", "of", "[I", false)
  | 4 => ("GuessingHeapModel", "many", "[I", false)
  | 5 => ("GuessingHeapModel", "quiet", "[Z", false)
  | 6 => ("GuessingHeapModel", "marked", "[Z", false)
  | 7 => ("GuessingHeapModel", "kind", "[I", false)
  | 8 => ("GuessingHeapModel", "doubtful", "[Z", false)
  | 9 => ("GuessingHeapModel", "collected", "I", false)
  | _ => ("GuessingHeapModel", "given", "I", false)
def t_M : Nat → FieldType := fun k => match k with
  | 0 => .int
  | 1 => .array .int
  | 2 => .array .int
  | 3 => .array .int
  | 4 => .array .int
  | 5 => .array .boolean
  | 6 => .array .boolean
  | 7 => .array .int
  | 8 => .array .boolean
  | 9 => .int
  | _ => .int
theorem n_M_ne : ∀ a, a < 11 → ∀ b, b < 11 → a ≠ b → (F_M a).2.1 ≠ (F_M b).2.1 := by decide +kernel
theorem t_M_ok : ∀ k, k < 11 → parseFieldDescriptor (F_M k).2.2.1 = some (t_M k) := by decide +kernel
abbrev cl_all : List vw_C := [(R_G, F_G, 12), (R_M, F_M, 11)]
abbrev b_G_init : ByteArray := prog_1_method_1_code
def y_G_init : MethodName := ⟨R_G, "<init>", "()V"⟩
abbrev b_A_fill1 : ByteArray := prog_20_method_103_code
def y_A_fill1 : MethodName := ⟨R_A, "fill", "([II)V"⟩
abbrev b_G_collect : ByteArray := prog_1_method_7_code
def y_G_collect : MethodName := ⟨R_G, "collect", "()I"⟩
abbrev b_G_collectNow : ByteArray := prog_1_method_31_code
def y_G_collectNow : MethodName := ⟨R_G, "collectNow", "()I"⟩
abbrev b_G_forgetMarks : ByteArray := prog_1_method_32_code
def y_G_forgetMarks : MethodName := ⟨R_G, "forgetMarks", "()V"⟩
abbrev b_G_lookAtRoots : ByteArray := prog_1_method_33_code
def y_G_lookAtRoots : MethodName := ⟨R_G, "lookAtRoots", "()V"⟩
abbrev b_G_lookAt : ByteArray := prog_1_method_36_code
def y_G_lookAt : MethodName := ⟨R_G, "lookAt", "(I)V"⟩
abbrev b_G_isAddress : ByteArray := prog_1_method_15_code
def y_G_isAddress : MethodName := ⟨R_G, "isAddress", "(I)Z"⟩
abbrev b_G_startAt : ByteArray := prog_1_method_19_code
def y_G_startAt : MethodName := ⟨R_G, "startAt", "(I)I"⟩
abbrev b_G_mark : ByteArray := prog_1_method_37_code
def y_G_mark : MethodName := ⟨R_G, "mark", "(I)V"⟩
abbrev b_G_lookAtMarkedObjects : ByteArray := prog_1_method_34_code
def y_G_lookAtMarkedObjects : MethodName := ⟨R_G, "lookAtMarkedObjects", "()V"⟩
abbrev b_G_lookAtWords : ByteArray := prog_1_method_35_code
def y_G_lookAtWords : MethodName := ⟨R_G, "lookAtWords", "(II)V"⟩
abbrev b_G_giveUpUnmarkedObjects : ByteArray := prog_1_method_38_code
def y_G_giveUpUnmarkedObjects : MethodName := ⟨R_G, "giveUpUnmarkedObjects", "()V"⟩
abbrev b_G_giveUp : ByteArray := prog_1_method_39_code
def y_G_giveUp : MethodName := ⟨R_G, "giveUp", "(II)V"⟩
abbrev b_A_fill3 : ByteArray := prog_20_method_104_code
def y_A_fill3 : MethodName := ⟨R_A, "fill", "([IIII)V"⟩
abbrev b_A_rangeCheck : ByteArray := prog_20_method_30_code
def y_A_rangeCheck : MethodName := ⟨R_A, "rangeCheck", "(III)V"⟩
abbrev b_G_freeBlocksWithoutObjects : ByteArray := prog_1_method_40_code
def y_G_freeBlocksWithoutObjects : MethodName := ⟨R_G, "freeBlocksWithoutObjects", "()V"⟩
abbrev b_G_wordsInNoObject : ByteArray := prog_1_method_21_code
def y_G_wordsInNoObject : MethodName := ⟨R_G, "wordsInNoObject", "(I)I"⟩
abbrev b_G_base : ByteArray := prog_1_method_8_code
def y_G_base : MethodName := ⟨R_G, "base", "(I)I"⟩
abbrev b_G_size : ByteArray := prog_1_method_9_code
def y_G_size : MethodName := ⟨R_G, "size", "(I)I"⟩
abbrev b_G_silent : ByteArray := prog_1_method_10_code
def y_G_silent : MethodName := ⟨R_G, "silent", "(I)Z"⟩
abbrev b_G_block : ByteArray := prog_1_method_11_code
def y_G_block : MethodName := ⟨R_G, "block", "(I)I"⟩
abbrev b_G_isBlock : ByteArray := prog_1_method_16_code
def y_G_isBlock : MethodName := ⟨R_G, "isBlock", "(I)Z"⟩
abbrev b_G_empty : ByteArray := prog_1_method_12_code
def y_G_empty : MethodName := ⟨R_G, "empty", "(I)I"⟩
abbrev b_G_isSplit : ByteArray := prog_1_method_20_code
def y_G_isSplit : MethodName := ⟨R_G, "isSplit", "(I)Z"⟩
abbrev b_G_objects : ByteArray := prog_1_method_13_code
def y_G_objects : MethodName := ⟨R_G, "objects", "()I"⟩
abbrev b_G_collections : ByteArray := prog_1_method_14_code
def y_G_collections : MethodName := ⟨R_G, "collections", "()I"⟩
abbrev b_L_allocate : ByteArray := method_3_code
def y_L_allocate : MethodName := ⟨R_L, "allocate", "(LGuessingHeap;IZ[J)I"⟩
abbrev b_G_allocate : ByteArray := prog_1_method_2_code
def y_G_allocate : MethodName := ⟨R_G, "allocate", "(IZ)I"⟩
abbrev b_G_findRoom : ByteArray := prog_1_method_24_code
def y_G_findRoom : MethodName := ⟨R_G, "findRoom", "(IZ)I"⟩
abbrev b_G_blocksFor : ByteArray := prog_1_method_23_code
def y_G_blocksFor : MethodName := ⟨R_G, "blocksFor", "(I)I"⟩
abbrev b_G_findBlocks : ByteArray := prog_1_method_26_code
def y_G_findBlocks : MethodName := ⟨R_G, "findBlocks", "(IZ)I"⟩
abbrev b_G_slotSize : ByteArray := prog_1_method_22_code
def y_G_slotSize : MethodName := ⟨R_G, "slotSize", "(I)I"⟩
abbrev b_G_findEmptySlot : ByteArray := prog_1_method_25_code
def y_G_findEmptySlot : MethodName := ⟨R_G, "findEmptySlot", "(I)I"⟩
abbrev b_G_placeSmall : ByteArray := prog_1_method_27_code
def y_G_placeSmall : MethodName := ⟨R_G, "placeSmall", "(IIZ)V"⟩
abbrev b_G_takeBlock : ByteArray := prog_1_method_29_code
def y_G_takeBlock : MethodName := ⟨R_G, "takeBlock", "(II)V"⟩
abbrev b_G_placeObject : ByteArray := prog_1_method_30_code
def y_G_placeObject : MethodName := ⟨R_G, "placeObject", "(IIZ)V"⟩
abbrev b_G_placeLarge : ByteArray := prog_1_method_28_code
def y_G_placeLarge : MethodName := ⟨R_G, "placeLarge", "(IIZ)V"⟩
abbrev b_L_root : ByteArray := method_4_code
def y_L_root : MethodName := ⟨R_L, "root", "(LGuessingHeap;II)I"⟩
abbrev b_G_root : ByteArray := prog_1_method_3_code
def y_G_root : MethodName := ⟨R_G, "root", "(II)V"⟩
abbrev b_G_checkRoot : ByteArray := prog_1_method_17_code
def y_G_checkRoot : MethodName := ⟨R_G, "checkRoot", "(I)V"⟩
abbrev b_L_rooted : ByteArray := method_5_code
def y_L_rooted : MethodName := ⟨R_L, "rooted", "(LGuessingHeap;I[J)I"⟩
abbrev b_G_rooted : ByteArray := prog_1_method_4_code
def y_G_rooted : MethodName := ⟨R_G, "rooted", "(I)I"⟩
abbrev b_L_read : ByteArray := method_6_code
def y_L_read : MethodName := ⟨R_L, "read", "(LGuessingHeap;I[J)I"⟩
abbrev b_G_read : ByteArray := prog_1_method_5_code
def y_G_read : MethodName := ⟨R_G, "read", "(I)I"⟩
abbrev b_G_checkInObject : ByteArray := prog_1_method_18_code
def y_G_checkInObject : MethodName := ⟨R_G, "checkInObject", "(I)V"⟩
abbrev b_L_write : ByteArray := method_7_code
def y_L_write : MethodName := ⟨R_L, "write", "(LGuessingHeap;II[J)I"⟩
abbrev b_G_write : ByteArray := prog_1_method_6_code
def y_G_write : MethodName := ⟨R_G, "write", "(II)I"⟩
abbrev b_M_init : ByteArray := prog_3_method_1_code
def y_M_init : MethodName := ⟨R_M, "<init>", "()V"⟩
abbrev b_M_thrown : ByteArray := prog_3_method_2_code
def y_M_thrown : MethodName := ⟨R_M, "thrown", "()I"⟩
abbrev b_M_allocate : ByteArray := prog_3_method_16_code
def y_M_allocate : MethodName := ⟨R_M, "allocate", "(IZ)I"⟩
abbrev b_M_room : ByteArray := prog_3_method_14_code
def y_M_room : MethodName := ⟨R_M, "room", "(IZ)I"⟩
abbrev b_M_sizeFor : ByteArray := prog_3_method_11_code
def y_M_sizeFor : MethodName := ⟨R_M, "sizeFor", "(I)I"⟩
abbrev b_M_smallRoom : ByteArray := prog_3_method_12_code
def y_M_smallRoom : MethodName := ⟨R_M, "smallRoom", "(IZ)I"⟩
abbrev b_M_isOpen : ByteArray := prog_3_method_10_code
def y_M_isOpen : MethodName := ⟨R_M, "isOpen", "(IZ)Z"⟩
abbrev b_M_largeRoom : ByteArray := prog_3_method_13_code
def y_M_largeRoom : MethodName := ⟨R_M, "largeRoom", "(IZ)I"⟩
abbrev b_M_gather : ByteArray := prog_3_method_9_code
def y_M_gather : MethodName := ⟨R_M, "gather", "()V"⟩
abbrev b_M_lookAtAll : ByteArray := prog_3_method_6_code
def y_M_lookAtAll : MethodName := ⟨R_M, "lookAtAll", "()Z"⟩
abbrev b_M_look : ByteArray := prog_3_method_5_code
def y_M_look : MethodName := ⟨R_M, "look", "(I)Z"⟩
abbrev b_M_isAddress : ByteArray := prog_3_method_3_code
def y_M_isAddress : MethodName := ⟨R_M, "isAddress", "(I)Z"⟩
abbrev b_M_objectAt : ByteArray := prog_3_method_4_code
def y_M_objectAt : MethodName := ⟨R_M, "objectAt", "(I)I"⟩
abbrev b_M_giveUp : ByteArray := prog_3_method_7_code
def y_M_giveUp : MethodName := ⟨R_M, "giveUp", "(I)V"⟩
abbrev b_M_isBare : ByteArray := prog_3_method_8_code
def y_M_isBare : MethodName := ⟨R_M, "isBare", "(I)Z"⟩
abbrev b_M_settle : ByteArray := prog_3_method_15_code
def y_M_settle : MethodName := ⟨R_M, "settle", "(IIZ)V"⟩
abbrev b_M_collect : ByteArray := prog_3_method_17_code
def y_M_collect : MethodName := ⟨R_M, "collect", "()I"⟩
abbrev b_M_root : ByteArray := prog_3_method_18_code
def y_M_root : MethodName := ⟨R_M, "root", "(II)V"⟩
abbrev b_M_rooted : ByteArray := prog_3_method_19_code
def y_M_rooted : MethodName := ⟨R_M, "rooted", "(I)I"⟩
abbrev b_M_read : ByteArray := prog_3_method_21_code
def y_M_read : MethodName := ⟨R_M, "read", "(I)I"⟩
abbrev b_M_bar : ByteArray := prog_3_method_20_code
def y_M_bar : MethodName := ⟨R_M, "bar", "(I)I"⟩
abbrev b_M_write : ByteArray := prog_3_method_22_code
def y_M_write : MethodName := ⟨R_M, "write", "(II)I"⟩
abbrev b_M_base : ByteArray := prog_3_method_23_code
def y_M_base : MethodName := ⟨R_M, "base", "(I)I"⟩
abbrev b_M_size : ByteArray := prog_3_method_24_code
def y_M_size : MethodName := ⟨R_M, "size", "(I)I"⟩
abbrev b_M_silent : ByteArray := prog_3_method_25_code
def y_M_silent : MethodName := ⟨R_M, "silent", "(I)Z"⟩
abbrev b_M_block : ByteArray := prog_3_method_26_code
def y_M_block : MethodName := ⟨R_M, "block", "(I)I"⟩
abbrev b_M_empty : ByteArray := prog_3_method_27_code
def y_M_empty : MethodName := ⟨R_M, "empty", "(I)I"⟩
abbrev b_M_objects : ByteArray := prog_3_method_28_code
def y_M_objects : MethodName := ⟨R_M, "objects", "()I"⟩
abbrev b_M_collections : ByteArray := prog_3_method_29_code
def y_M_collections : MethodName := ⟨R_M, "collections", "()I"⟩
def wa_0 : List Cond := [.selects R_G y_G_collectNow y_G_collectNow, .selects R_G y_G_forgetMarks y_G_forgetMarks, .selects R_G y_G_lookAtRoots y_G_lookAtRoots, .selects R_G y_G_lookAt y_G_lookAt, .selects R_G y_G_startAt y_G_startAt, .selects R_G y_G_mark y_G_mark, .selects R_G y_G_lookAtMarkedObjects y_G_lookAtMarkedObjects, .selects R_G y_G_lookAtWords y_G_lookAtWords, .selects R_G y_G_giveUpUnmarkedObjects y_G_giveUpUnmarkedObjects, .selects R_G y_G_giveUp y_G_giveUp, .selects R_G y_G_freeBlocksWithoutObjects y_G_freeBlocksWithoutObjects, .selects R_G y_G_wordsInNoObject y_G_wordsInNoObject, .selects R_G y_G_isSplit y_G_isSplit, .selects R_G y_G_findRoom y_G_findRoom, .selects R_G y_G_findBlocks y_G_findBlocks, .selects R_G y_G_findEmptySlot y_G_findEmptySlot, .selects R_G y_G_placeSmall y_G_placeSmall, .selects R_G y_G_takeBlock y_G_takeBlock, .selects R_G y_G_placeObject y_G_placeObject, .selects R_G y_G_placeLarge y_G_placeLarge, .selects R_G y_G_checkInObject y_G_checkInObject, .selects R_M y_M_room y_M_room, .selects R_M y_M_smallRoom y_M_smallRoom, .selects R_M y_M_isOpen y_M_isOpen, .selects R_M y_M_largeRoom y_M_largeRoom, .selects R_M y_M_gather y_M_gather, .selects R_M y_M_lookAtAll y_M_lookAtAll, .selects R_M y_M_look y_M_look, .selects R_M y_M_objectAt y_M_objectAt, .selects R_M y_M_giveUp y_M_giveUp, .selects R_M y_M_isBare y_M_isBare, .selects R_M y_M_settle y_M_settle, .selects R_M y_M_bar y_M_bar, .initialized R_L, .initialized R_G, .initialized R_A, .initialized R_M, .initialized "java/lang/Throwable", .initialized "java/lang/Exception", .initialized "java/lang/RuntimeException"]
def wa_1 : List Cond := [.initialized "java/lang/IllegalArgumentException", .initialized "java/lang/System", .initialized "java/lang/IndexOutOfBoundsException", .initialized "java/lang/IllegalStateException", .classLink R_L 8 R_G, .instantiable R_G 12, .methodLink R_L 34 y_G_init, .instanceMethod y_G_init, .code y_G_init prog_1_method_1_code 1 none, .methodLink R_G 3 objectInit, .instanceMethod objectInit, .code objectInit object_method_1_code 1 none, .methodLink R_G 48 y_A_fill1, .static y_A_fill1, .code y_A_fill1 prog_20_method_103_code 4 none, .fieldLink R_G 9 R_G "roots" "[I", .fieldLink R_G 13 R_G "kinds" "[I", .fieldLink R_G 16 R_G "doubtful" "[Z", .fieldLink R_G 20 R_G "words" "[I", .fieldLink R_G 23 R_G "starts" "[I", .fieldLink R_G 26 R_G "lengths" "[I", .fieldLink R_G 29 R_G "unread" "[Z", .fieldLink R_G 32 R_G "marked" "[Z", .fieldLink R_G 35 R_G "found" "[I", .fieldLink R_G 38 R_G "foundCount" "I", .fieldLink R_G 42 R_G "objectCount" "I", .fieldLink R_G 45 R_G "collectionCount" "I", .laysFinal R_G R_G "roots" "[I", .soleField R_G "roots", .laysFinal R_G R_G "kinds" "[I", .soleField R_G "kinds", .laysFinal R_G R_G "doubtful" "[Z", .soleField R_G "doubtful", .laysFinal R_G R_G "words" "[I", .soleField R_G "words", .laysFinal R_G R_G "starts" "[I", .soleField R_G "starts", .laysFinal R_G R_G "lengths" "[I", .soleField R_G "lengths", .laysFinal R_G R_G "unread" "[Z"]
def wa_2 : List Cond := [.soleField R_G "unread", .laysFinal R_G R_G "marked" "[Z", .soleField R_G "marked", .laysFinal R_G R_G "found" "[I", .soleField R_G "found", .lays R_G R_G "foundCount" "I", .soleField R_G "foundCount", .lays R_G R_G "objectCount" "I", .soleField R_G "objectCount", .lays R_G R_G "collectionCount" "I", .soleField R_G "collectionCount", .superclass R_G "java/lang/Object", .arrayClass .int, .arrayClass .boolean, .methodLink R_L 63 y_G_collect, .instanceMethod y_G_collect, .selects R_G y_G_collect y_G_collect, .code y_G_collect prog_1_method_7_code 1 (some .int), .methodLink R_G 65 y_G_collectNow, .privateMethod y_G_collectNow, .instanceMethod y_G_collectNow, .code y_G_collectNow prog_1_method_31_code 2 (some .int), .methodLink R_G 136 y_G_forgetMarks, .privateMethod y_G_forgetMarks, .instanceMethod y_G_forgetMarks, .code y_G_forgetMarks prog_1_method_32_code 2 none, .methodLink R_G 139 y_G_lookAtRoots, .privateMethod y_G_lookAtRoots, .instanceMethod y_G_lookAtRoots, .code y_G_lookAtRoots prog_1_method_33_code 2 none, .methodLink R_G 151 y_G_lookAt, .privateMethod y_G_lookAt, .instanceMethod y_G_lookAt, .code y_G_lookAt prog_1_method_36_code 4 none, .methodLink R_G 113 y_G_isAddress, .static y_G_isAddress, .code y_G_isAddress prog_1_method_15_code 1 (some .boolean), .methodLink R_G 95 y_G_startAt, .privateMethod y_G_startAt, .instanceMethod y_G_startAt]
def wa_3 : List Cond := [.code y_G_startAt prog_1_method_19_code 2 (some .int), .methodLink R_G 157 y_G_mark, .privateMethod y_G_mark, .instanceMethod y_G_mark, .code y_G_mark prog_1_method_37_code 2 none, .methodLink R_G 142 y_G_lookAtMarkedObjects, .privateMethod y_G_lookAtMarkedObjects, .instanceMethod y_G_lookAtMarkedObjects, .code y_G_lookAtMarkedObjects prog_1_method_34_code 3 none, .methodLink R_G 154 y_G_lookAtWords, .privateMethod y_G_lookAtWords, .instanceMethod y_G_lookAtWords, .code y_G_lookAtWords prog_1_method_35_code 4 none, .methodLink R_G 145 y_G_giveUpUnmarkedObjects, .privateMethod y_G_giveUpUnmarkedObjects, .instanceMethod y_G_giveUpUnmarkedObjects, .code y_G_giveUpUnmarkedObjects prog_1_method_38_code 2 none, .methodLink R_G 160 y_G_giveUp, .privateMethod y_G_giveUp, .instanceMethod y_G_giveUp, .code y_G_giveUp prog_1_method_39_code 3 none, .methodLink R_G 133 y_A_fill3, .static y_A_fill3, .code y_A_fill3 prog_20_method_104_code 5 none, .methodLink R_A 13 y_A_rangeCheck, .static y_A_rangeCheck, .code y_A_rangeCheck prog_20_method_30_code 3 none, .classLink R_A 43 "java/lang/IllegalArgumentException", .instantiable "java/lang/IllegalArgumentException" 6, .castable "java/lang/IllegalArgumentException" "java/lang/IllegalArgumentException", .declares ⟨"java/lang/RuntimeException", "<init>", "()V"⟩, .declares ⟨"java/lang/RuntimeException", "<init>", "(Ljava/lang/String;)V"⟩, .declares ⟨"java/lang/Exception", "<init>", "()V"⟩, .declares ⟨"java/lang/Exception", "<init>", "(Ljava/lang/String;)V"⟩, .declares ⟨"java/lang/Throwable", "<init>", "()V"⟩, .declares ⟨"java/lang/Throwable", "<init>", "(Ljava/lang/String;)V"⟩, .selects "java/lang/IllegalArgumentException" ⟨"java/lang/Throwable", "fillInStackTrace", "(I)Ljava/lang/Throwable;"⟩ ⟨"java/lang/Throwable", "fillInStackTrace", "(I)Ljava/lang/Throwable;"⟩, .selects "java/lang/IllegalArgumentException" ⟨"java/lang/Throwable", "fillInStackTrace", "()Ljava/lang/Throwable;"⟩ ⟨"java/lang/Throwable", "fillInStackTrace", "()Ljava/lang/Throwable;"⟩, .lays "java/lang/IllegalArgumentException" "java/lang/Throwable" "cause" "Ljava/lang/Throwable;", .lays "java/lang/Throwable" "java/lang/Throwable" "cause" "Ljava/lang/Throwable;"]
def wa_4 : List Cond := [.lays "java/lang/IllegalArgumentException" "java/lang/Throwable" "stackTrace" "[Ljava/lang/StackTraceElement;", .lays "java/lang/Throwable" "java/lang/Throwable" "stackTrace" "[Ljava/lang/StackTraceElement;", .lays "java/lang/IllegalArgumentException" "java/lang/Throwable" "suppressedExceptions" "Ljava/util/List;", .lays "java/lang/Throwable" "java/lang/Throwable" "suppressedExceptions" "Ljava/util/List;", .lays "java/lang/IllegalArgumentException" "java/lang/Throwable" "detailMessage" "Ljava/lang/String;", .lays "java/lang/Throwable" "java/lang/Throwable" "detailMessage" "Ljava/lang/String;", .lays "java/lang/IllegalArgumentException" "java/lang/Throwable" "backtrace" "Ljava/lang/Object;", .lays "java/lang/Throwable" "java/lang/Throwable" "backtrace" "Ljava/lang/Object;", .fieldLink "java/lang/Throwable" 198 "java/lang/Throwable" "backtrace" "Ljava/lang/Object;", .superclass "java/lang/Throwable" "java/lang/Object", .instanceMethod ⟨"java/lang/Throwable", "<init>", "()V"⟩, .code ⟨"java/lang/Throwable", "<init>", "()V"⟩ prog_19_method_1_code 1 none, .methodLink "java/lang/Throwable" 1 objectInit, .fieldLink "java/lang/Throwable" 13 "java/lang/Throwable" "UNASSIGNED_STACK" "[Ljava/lang/StackTraceElement;", .laysStatic "java/lang/Throwable" "UNASSIGNED_STACK" "[Ljava/lang/StackTraceElement;", .fieldLink "java/lang/Throwable" 20 "java/lang/Throwable" "SUPPRESSED_SENTINEL" "Ljava/util/List;", .laysStatic "java/lang/Throwable" "SUPPRESSED_SENTINEL" "Ljava/util/List;", .methodLink "java/lang/Throwable" 27 ⟨"java/lang/Throwable", "fillInStackTrace", "()Ljava/lang/Throwable;"⟩, .instanceMethod ⟨"java/lang/Throwable", "fillInStackTrace", "()Ljava/lang/Throwable;"⟩, .sameMethod "java/lang/Throwable" "java/lang/Throwable" "fillInStackTrace" "()Ljava/lang/Throwable;", .selects "java/lang/IllegalStateException" ⟨"java/lang/Throwable", "fillInStackTrace", "()Ljava/lang/Throwable;"⟩ ⟨"java/lang/Throwable", "fillInStackTrace", "()Ljava/lang/Throwable;"⟩, .selects "java/lang/IndexOutOfBoundsException" ⟨"java/lang/Throwable", "fillInStackTrace", "()Ljava/lang/Throwable;"⟩ ⟨"java/lang/Throwable", "fillInStackTrace", "()Ljava/lang/Throwable;"⟩, .codeSync ⟨"java/lang/Throwable", "fillInStackTrace", "()Ljava/lang/Throwable;"⟩ prog_19_method_18_code 1 (some (.object "java/lang/Throwable")), .methodLink "java/lang/Throwable" 202 ⟨"java/lang/Throwable", "fillInStackTrace", "(I)Ljava/lang/Throwable;"⟩, .privateMethod ⟨"java/lang/Throwable", "fillInStackTrace", "(I)Ljava/lang/Throwable;"⟩, .instanceMethod ⟨"java/lang/Throwable", "fillInStackTrace", "(I)Ljava/lang/Throwable;"⟩, .instantiable "java/lang/Throwable" 6, .native ⟨"java/lang/Throwable", "fillInStackTrace", "(I)Ljava/lang/Throwable;"⟩, .arrayClass .byte, .native ⟨"java/lang/Object", "clone", "()Ljava/lang/Object;"⟩, .instanceMethod ⟨"java/lang/Object", "clone", "()Ljava/lang/Object;"⟩, .methodLink R_A 343 ⟨R_A, "checkLength", "(II)V"⟩, .static ⟨R_A, "checkLength", "(II)V"⟩, .code ⟨R_A, "checkLength", "(II)V"⟩ prog_20_method_131_code 2 none, .methodLink R_A 65 ⟨"java/lang/IllegalArgumentException", "<init>", "(Ljava/lang/String;)V"⟩, .instanceMethod ⟨"java/lang/IllegalArgumentException", "<init>", "(Ljava/lang/String;)V"⟩, .code ⟨"java/lang/IllegalArgumentException", "<init>", "(Ljava/lang/String;)V"⟩ prog_8_method_2_code 2 none, .methodLink "java/lang/IllegalArgumentException" 7 ⟨"java/lang/RuntimeException", "<init>", "(Ljava/lang/String;)V"⟩, .instanceMethod ⟨"java/lang/RuntimeException", "<init>", "(Ljava/lang/String;)V"⟩, .code ⟨"java/lang/RuntimeException", "<init>", "(Ljava/lang/String;)V"⟩ prog_13_method_2_code 2 none]
def wa_5 : List Cond := [.methodLink "java/lang/RuntimeException" 7 ⟨"java/lang/Exception", "<init>", "(Ljava/lang/String;)V"⟩, .instanceMethod ⟨"java/lang/Exception", "<init>", "(Ljava/lang/String;)V"⟩, .code ⟨"java/lang/Exception", "<init>", "(Ljava/lang/String;)V"⟩ prog_7_method_2_code 2 none, .methodLink "java/lang/Exception" 7 ⟨"java/lang/Throwable", "<init>", "(Ljava/lang/String;)V"⟩, .instanceMethod ⟨"java/lang/Throwable", "<init>", "(Ljava/lang/String;)V"⟩, .code ⟨"java/lang/Throwable", "<init>", "(Ljava/lang/String;)V"⟩ prog_19_method_2_code 2 none, .fieldLink "java/lang/Throwable" 198 "java/lang/Throwable" "backtrace" "Ljava/lang/Object;", .fieldLink "java/lang/Throwable" 31 "java/lang/Throwable" "detailMessage" "Ljava/lang/String;", .fieldLink "java/lang/Throwable" 7 "java/lang/Throwable" "cause" "Ljava/lang/Throwable;", .fieldLink "java/lang/Throwable" 17 "java/lang/Throwable" "stackTrace" "[Ljava/lang/StackTraceElement;", .fieldLink "java/lang/Throwable" 24 "java/lang/Throwable" "suppressedExceptions" "Ljava/util/List;", .soleField "java/lang/Throwable" "backtrace", .soleField "java/lang/Throwable" "detailMessage", .soleField "java/lang/Throwable" "cause", .soleField "java/lang/Throwable" "stackTrace", .lays "java/lang/IllegalArgumentException" "java/lang/Throwable" "depth" "I", .soleField "java/lang/Throwable" "depth", .soleField "java/lang/Throwable" "suppressedExceptions", .superclass "java/lang/IllegalArgumentException" "java/lang/RuntimeException", .instanceMethod ⟨"java/lang/IndexOutOfBoundsException", "<init>", "(Ljava/lang/String;)V"⟩, .code ⟨"java/lang/IndexOutOfBoundsException", "<init>", "(Ljava/lang/String;)V"⟩ prog_10_method_2_code 2 none, .methodLink "java/lang/IndexOutOfBoundsException" 7 ⟨"java/lang/RuntimeException", "<init>", "(Ljava/lang/String;)V"⟩, .methodLink R_G 148 y_G_freeBlocksWithoutObjects, .privateMethod y_G_freeBlocksWithoutObjects, .instanceMethod y_G_freeBlocksWithoutObjects, .code y_G_freeBlocksWithoutObjects prog_1_method_40_code 2 none, .methodLink R_G 105 y_G_wordsInNoObject, .privateMethod y_G_wordsInNoObject, .instanceMethod y_G_wordsInNoObject, .code y_G_wordsInNoObject prog_1_method_21_code 4 (some .int), .methodLink R_L 67 y_G_base, .instanceMethod y_G_base, .selects R_G y_G_base y_G_base, .code y_G_base prog_1_method_8_code 3 (some .int), .methodLink R_L 71 y_G_size, .instanceMethod y_G_size, .selects R_G y_G_size y_G_size, .code y_G_size prog_1_method_9_code 3 (some .int), .methodLink R_L 75 y_G_silent, .instanceMethod y_G_silent]
def wa_6 : List Cond := [.selects R_G y_G_silent y_G_silent, .code y_G_silent prog_1_method_10_code 3 (some .boolean), .methodLink R_L 80 y_G_block, .instanceMethod y_G_block, .selects R_G y_G_block y_G_block, .code y_G_block prog_1_method_11_code 2 (some .int), .methodLink R_G 98 y_G_isBlock, .static y_G_isBlock, .code y_G_isBlock prog_1_method_16_code 1 (some .boolean), .methodLink R_L 84 y_G_empty, .instanceMethod y_G_empty, .selects R_G y_G_empty y_G_empty, .code y_G_empty prog_1_method_12_code 2 (some .int), .methodLink R_G 102 y_G_isSplit, .privateMethod y_G_isSplit, .instanceMethod y_G_isSplit, .code y_G_isSplit prog_1_method_20_code 2 (some .boolean), .methodLink R_L 88 y_G_objects, .instanceMethod y_G_objects, .selects R_G y_G_objects y_G_objects, .code y_G_objects prog_1_method_13_code 1 (some .int), .methodLink R_L 92 y_G_collections, .instanceMethod y_G_collections, .selects R_G y_G_collections y_G_collections, .code y_G_collections prog_1_method_14_code 1 (some .int), .methodLink R_L 38 y_L_allocate, .static y_L_allocate, .codeWith y_L_allocate method_3_code 5 (some .int) [(0, 10, 13, 13), (0, 10, 17, 15)], .classLink R_L 13 "java/lang/IllegalArgumentException", .classLink R_L 15 "java/lang/IllegalStateException", .methodLink R_L 7 y_G_allocate, .instanceMethod y_G_allocate, .selects R_G y_G_allocate y_G_allocate, .code y_G_allocate prog_1_method_2_code 4 (some .int), .classLink R_G 54 "java/lang/IllegalArgumentException", .stringRef R_G 56 "n is not 1 .. 128", .methodLink R_G 58 ⟨"java/lang/IllegalArgumentException", "<init>", "(Ljava/lang/String;)V"⟩, .methodLink R_G 61 y_G_findRoom, .privateMethod y_G_findRoom, .instanceMethod y_G_findRoom]
def wa_7 : List Cond := [.code y_G_findRoom prog_1_method_24_code 4 (some .int), .methodLink R_G 82 y_G_blocksFor, .static y_G_blocksFor, .code y_G_blocksFor prog_1_method_23_code 1 (some .int), .methodLink R_G 120 y_G_findBlocks, .privateMethod y_G_findBlocks, .instanceMethod y_G_findBlocks, .code y_G_findBlocks prog_1_method_26_code 6 (some .int), .methodLink R_G 74 y_G_slotSize, .static y_G_slotSize, .code y_G_slotSize prog_1_method_22_code 2 (some .int), .methodLink R_G 123 y_G_findEmptySlot, .privateMethod y_G_findEmptySlot, .instanceMethod y_G_findEmptySlot, .code y_G_findEmptySlot prog_1_method_25_code 3 (some .int), .classLink R_G 69 "java/lang/IllegalStateException", .instantiable "java/lang/IllegalStateException" 6, .castable "java/lang/IllegalStateException" "java/lang/IllegalStateException", .selects "java/lang/IllegalStateException" ⟨"java/lang/Throwable", "fillInStackTrace", "(I)Ljava/lang/Throwable;"⟩ ⟨"java/lang/Throwable", "fillInStackTrace", "(I)Ljava/lang/Throwable;"⟩, .lays "java/lang/IllegalStateException" "java/lang/Throwable" "cause" "Ljava/lang/Throwable;", .lays "java/lang/IllegalStateException" "java/lang/Throwable" "stackTrace" "[Ljava/lang/StackTraceElement;", .lays "java/lang/IllegalStateException" "java/lang/Throwable" "suppressedExceptions" "Ljava/util/List;", .lays "java/lang/IllegalStateException" "java/lang/Throwable" "detailMessage" "Ljava/lang/String;", .lays "java/lang/IllegalStateException" "java/lang/Throwable" "backtrace" "Ljava/lang/Object;", .stringRef R_G 71 "there is no room", .methodLink R_G 73 ⟨"java/lang/IllegalStateException", "<init>", "(Ljava/lang/String;)V"⟩, .instanceMethod ⟨"java/lang/IllegalStateException", "<init>", "(Ljava/lang/String;)V"⟩, .code ⟨"java/lang/IllegalStateException", "<init>", "(Ljava/lang/String;)V"⟩ prog_9_method_2_code 2 none, .methodLink "java/lang/IllegalStateException" 7 ⟨"java/lang/RuntimeException", "<init>", "(Ljava/lang/String;)V"⟩, .lays "java/lang/IllegalStateException" "java/lang/Throwable" "depth" "I", .superclass "java/lang/IllegalStateException" "java/lang/RuntimeException", .methodLink R_G 78 y_G_placeSmall, .privateMethod y_G_placeSmall, .instanceMethod y_G_placeSmall, .code y_G_placeSmall prog_1_method_27_code 4 none, .methodLink R_G 126 y_G_takeBlock, .privateMethod y_G_takeBlock, .instanceMethod y_G_takeBlock, .code y_G_takeBlock prog_1_method_29_code 3 none, .methodLink R_G 130 y_G_placeObject]
def wa_8 : List Cond := [.privateMethod y_G_placeObject, .instanceMethod y_G_placeObject, .code y_G_placeObject prog_1_method_30_code 4 none, .methodLink R_G 85 y_G_placeLarge, .privateMethod y_G_placeLarge, .instanceMethod y_G_placeLarge, .code y_G_placeLarge prog_1_method_28_code 6 none, .methodLink R_L 48 y_L_root, .static y_L_root, .codeWith y_L_root method_4_code 4 (some .int) [(0, 6, 9, 21)], .classLink R_L 21 "java/lang/IndexOutOfBoundsException", .methodLink R_L 17 y_G_root, .instanceMethod y_G_root, .selects R_G y_G_root y_G_root, .code y_G_root prog_1_method_3_code 3 none, .methodLink R_G 88 y_G_checkRoot, .static y_G_checkRoot, .code y_G_checkRoot prog_1_method_17_code 1 none, .classLink R_G 108 "java/lang/IndexOutOfBoundsException", .instantiable "java/lang/IndexOutOfBoundsException" 6, .castable "java/lang/IndexOutOfBoundsException" "java/lang/IndexOutOfBoundsException", .selects "java/lang/IndexOutOfBoundsException" ⟨"java/lang/Throwable", "fillInStackTrace", "(I)Ljava/lang/Throwable;"⟩ ⟨"java/lang/Throwable", "fillInStackTrace", "(I)Ljava/lang/Throwable;"⟩, .lays "java/lang/IndexOutOfBoundsException" "java/lang/Throwable" "cause" "Ljava/lang/Throwable;", .lays "java/lang/IndexOutOfBoundsException" "java/lang/Throwable" "stackTrace" "[Ljava/lang/StackTraceElement;", .lays "java/lang/IndexOutOfBoundsException" "java/lang/Throwable" "suppressedExceptions" "Ljava/util/List;", .lays "java/lang/IndexOutOfBoundsException" "java/lang/Throwable" "detailMessage" "Ljava/lang/String;", .lays "java/lang/IndexOutOfBoundsException" "java/lang/Throwable" "backtrace" "Ljava/lang/Object;", .stringRef R_G 110 "there is no such root", .methodLink R_G 112 ⟨"java/lang/IndexOutOfBoundsException", "<init>", "(Ljava/lang/String;)V"⟩, .lays "java/lang/IndexOutOfBoundsException" "java/lang/Throwable" "depth" "I", .superclass "java/lang/IndexOutOfBoundsException" "java/lang/RuntimeException", .methodLink R_L 52 y_L_rooted, .static y_L_rooted, .codeWith y_L_rooted method_5_code 4 (some .int) [(0, 9, 12, 21)], .methodLink R_L 23 y_G_rooted, .instanceMethod y_G_rooted, .selects R_G y_G_rooted y_G_rooted, .code y_G_rooted prog_1_method_4_code 2 (some .int), .methodLink R_L 56 y_L_read, .static y_L_read]
def wa_9 : List Cond := [.codeWith y_L_read method_6_code 4 (some .int) [(0, 9, 12, 21), (0, 9, 15, 15)], .methodLink R_L 27 y_G_read, .instanceMethod y_G_read, .selects R_G y_G_read y_G_read, .code y_G_read prog_1_method_5_code 2 (some .int), .methodLink R_G 92 y_G_checkInObject, .privateMethod y_G_checkInObject, .instanceMethod y_G_checkInObject, .code y_G_checkInObject prog_1_method_18_code 2 none, .stringRef R_G 116 "this is no address of the heap", .stringRef R_G 118 "this word is in no object", .methodLink R_L 59 y_L_write, .static y_L_write, .codeWith y_L_write method_7_code 5 (some .int) [(0, 10, 13, 21), (0, 10, 17, 15)], .methodLink R_L 30 y_G_write, .instanceMethod y_G_write, .selects R_G y_G_write y_G_write, .code y_G_write prog_1_method_6_code 4 (some .int), .classLink R_L 35 R_M, .instantiable R_M 11, .methodLink R_L 37 y_M_init, .instanceMethod y_M_init, .code y_M_init prog_3_method_1_code 1 none, .methodLink R_M 1 objectInit, .fieldLink R_M 35 R_M "thrown" "I", .fieldLink R_M 7 R_M "roots" "[I", .fieldLink R_M 13 R_M "word" "[I", .fieldLink R_M 16 R_M "of" "[I", .fieldLink R_M 19 R_M "many" "[I", .fieldLink R_M 22 R_M "quiet" "[Z", .fieldLink R_M 26 R_M "marked" "[Z", .fieldLink R_M 29 R_M "kind" "[I", .fieldLink R_M 32 R_M "doubtful" "[Z", .fieldLink R_M 53 R_M "collected" "I", .fieldLink R_M 50 R_M "given" "I", .lays R_M R_M "thrown" "I", .soleField R_M "thrown", .lays R_M R_M "roots" "[I", .soleField R_M "roots", .lays R_M R_M "word" "[I"]
def wa_10 : List Cond := [.soleField R_M "word", .lays R_M R_M "of" "[I", .soleField R_M "of", .lays R_M R_M "many" "[I", .soleField R_M "many", .lays R_M R_M "quiet" "[Z", .soleField R_M "quiet", .lays R_M R_M "marked" "[Z", .soleField R_M "marked", .lays R_M R_M "kind" "[I", .soleField R_M "kind", .lays R_M R_M "doubtful" "[Z", .soleField R_M "doubtful", .lays R_M R_M "collected" "I", .soleField R_M "collected", .lays R_M R_M "given" "I", .soleField R_M "given", .superclass R_M "java/lang/Object", .methodLink R_L 44 y_M_thrown, .instanceMethod y_M_thrown, .selects R_M y_M_thrown y_M_thrown, .code y_M_thrown prog_3_method_2_code 1 (some .int), .methodLink R_L 43 y_M_allocate, .instanceMethod y_M_allocate, .selects R_M y_M_allocate y_M_allocate, .code y_M_allocate prog_3_method_16_code 4 (some .int), .methodLink R_M 81 y_M_room, .privateMethod y_M_room, .instanceMethod y_M_room, .code y_M_room prog_3_method_14_code 3 (some .int), .methodLink R_M 71 y_M_sizeFor, .static y_M_sizeFor, .code y_M_sizeFor prog_3_method_11_code 1 (some .int), .methodLink R_M 74 y_M_smallRoom, .privateMethod y_M_smallRoom, .instanceMethod y_M_smallRoom, .code y_M_smallRoom prog_3_method_12_code 4 (some .int), .methodLink R_M 67 y_M_isOpen, .privateMethod y_M_isOpen, .instanceMethod y_M_isOpen]
def wa_11 : List Cond := [.code y_M_isOpen prog_3_method_10_code 3 (some .boolean), .methodLink R_M 78 y_M_largeRoom, .privateMethod y_M_largeRoom, .instanceMethod y_M_largeRoom, .code y_M_largeRoom prog_3_method_13_code 6 (some .int), .methodLink R_M 84 y_M_gather, .privateMethod y_M_gather, .instanceMethod y_M_gather, .code y_M_gather prog_3_method_9_code 3 none, .methodLink R_M 56 y_M_lookAtAll, .privateMethod y_M_lookAtAll, .instanceMethod y_M_lookAtAll, .code y_M_lookAtAll prog_3_method_6_code 5 (some .boolean), .methodLink R_M 47 y_M_look, .privateMethod y_M_look, .instanceMethod y_M_look, .code y_M_look prog_3_method_5_code 4 (some .boolean), .methodLink R_M 39 y_M_isAddress, .static y_M_isAddress, .code y_M_isAddress prog_3_method_3_code 1 (some .boolean), .methodLink R_M 43 y_M_objectAt, .privateMethod y_M_objectAt, .instanceMethod y_M_objectAt, .code y_M_objectAt prog_3_method_4_code 2 (some .int), .methodLink R_M 60 y_M_giveUp, .privateMethod y_M_giveUp, .instanceMethod y_M_giveUp, .code y_M_giveUp prog_3_method_7_code 4 none, .methodLink R_M 64 y_M_isBare, .privateMethod y_M_isBare, .instanceMethod y_M_isBare, .code y_M_isBare prog_3_method_8_code 4 (some .boolean), .methodLink R_M 87 y_M_settle, .privateMethod y_M_settle, .instanceMethod y_M_settle, .code y_M_settle prog_3_method_15_code 6 none, .methodLink R_L 66 y_M_collect, .instanceMethod y_M_collect, .selects R_M y_M_collect y_M_collect, .code y_M_collect prog_3_method_17_code 1 (some .int)]
def wa_12 : List Cond := [.methodLink R_L 51 y_M_root, .instanceMethod y_M_root, .selects R_M y_M_root y_M_root, .code y_M_root prog_3_method_18_code 3 none, .methodLink R_L 55 y_M_rooted, .instanceMethod y_M_rooted, .selects R_M y_M_rooted y_M_rooted, .code y_M_rooted prog_3_method_19_code 2 (some .int), .methodLink R_L 58 y_M_read, .instanceMethod y_M_read, .selects R_M y_M_read y_M_read, .code y_M_read prog_3_method_21_code 2 (some .int), .methodLink R_M 91 y_M_bar, .privateMethod y_M_bar, .instanceMethod y_M_bar, .code y_M_bar prog_3_method_20_code 2 (some .int), .methodLink R_L 62 y_M_write, .instanceMethod y_M_write, .selects R_M y_M_write y_M_write, .code y_M_write prog_3_method_22_code 4 (some .int), .methodLink R_L 70 y_M_base, .instanceMethod y_M_base, .selects R_M y_M_base y_M_base, .code y_M_base prog_3_method_23_code 3 (some .int), .methodLink R_L 74 y_M_size, .instanceMethod y_M_size, .selects R_M y_M_size y_M_size, .code y_M_size prog_3_method_24_code 3 (some .int), .methodLink R_L 79 y_M_silent, .instanceMethod y_M_silent, .selects R_M y_M_silent y_M_silent, .code y_M_silent prog_3_method_25_code 3 (some .boolean), .methodLink R_L 83 y_M_block, .instanceMethod y_M_block, .selects R_M y_M_block y_M_block, .code y_M_block prog_3_method_26_code 2 (some .int), .methodLink R_L 87 y_M_empty, .instanceMethod y_M_empty, .selects R_M y_M_empty y_M_empty, .code y_M_empty prog_3_method_27_code 4 (some .int)]
def wa_13 : List Cond := [.methodLink R_L 91 y_M_objects, .instanceMethod y_M_objects, .selects R_M y_M_objects y_M_objects, .code y_M_objects prog_3_method_28_code 3 (some .int), .methodLink R_L 95 y_M_collections, .instanceMethod y_M_collections, .selects R_M y_M_collections y_M_collections, .code y_M_collections prog_3_method_29_code 1 (some .int), .arrayClass .long, .sameMethod "java/lang/Throwable" "java/lang/Throwable" "fillInStackTrace" "(I)Ljava/lang/Throwable;"]
def wa_all : List Cond := wa_0 ++ (wa_1 ++ (wa_2 ++ (wa_3 ++ (wa_4 ++ (wa_5 ++ (wa_6 ++ (wa_7 ++ (wa_8 ++ (wa_9 ++ (wa_10 ++ (wa_11 ++ (wa_12 ++ (wa_13)))))))))))))
theorem wa_in0 {w : Cond} (h : w ∈ wa_0) : w ∈ wa_all := List.mem_append_left _ h
theorem wa_in1 {w : Cond} (h : w ∈ wa_1) : w ∈ wa_all := List.mem_append_right _ (List.mem_append_left _ h)
theorem wa_in2 {w : Cond} (h : w ∈ wa_2) : w ∈ wa_all := List.mem_append_right _ (List.mem_append_right _ (List.mem_append_left _ h))
theorem wa_in3 {w : Cond} (h : w ∈ wa_3) : w ∈ wa_all := List.mem_append_right _ (List.mem_append_right _ (List.mem_append_right _ (List.mem_append_left _ h)))
theorem wa_in4 {w : Cond} (h : w ∈ wa_4) : w ∈ wa_all := List.mem_append_right _ (List.mem_append_right _ (List.mem_append_right _ (List.mem_append_right _ (List.mem_append_left _ h))))
theorem wa_in5 {w : Cond} (h : w ∈ wa_5) : w ∈ wa_all := List.mem_append_right _ (List.mem_append_right _ (List.mem_append_right _ (List.mem_append_right _ (List.mem_append_right _ (List.mem_append_left _ h)))))
theorem wa_in6 {w : Cond} (h : w ∈ wa_6) : w ∈ wa_all := List.mem_append_right _ (List.mem_append_right _ (List.mem_append_right _ (List.mem_append_right _ (List.mem_append_right _ (List.mem_append_right _ (List.mem_append_left _ h))))))
theorem wa_in7 {w : Cond} (h : w ∈ wa_7) : w ∈ wa_all := List.mem_append_right _ (List.mem_append_right _ (List.mem_append_right _ (List.mem_append_right _ (List.mem_append_right _ (List.mem_append_right _ (List.mem_append_right _ (List.mem_append_left _ h)))))))
theorem wa_in8 {w : Cond} (h : w ∈ wa_8) : w ∈ wa_all := List.mem_append_right _ (List.mem_append_right _ (List.mem_append_right _ (List.mem_append_right _ (List.mem_append_right _ (List.mem_append_right _ (List.mem_append_right _ (List.mem_append_right _ (List.mem_append_left _ h))))))))
theorem wa_in9 {w : Cond} (h : w ∈ wa_9) : w ∈ wa_all := List.mem_append_right _ (List.mem_append_right _ (List.mem_append_right _ (List.mem_append_right _ (List.mem_append_right _ (List.mem_append_right _ (List.mem_append_right _ (List.mem_append_right _ (List.mem_append_right _ (List.mem_append_left _ h)))))))))
theorem wa_in10 {w : Cond} (h : w ∈ wa_10) : w ∈ wa_all := List.mem_append_right _ (List.mem_append_right _ (List.mem_append_right _ (List.mem_append_right _ (List.mem_append_right _ (List.mem_append_right _ (List.mem_append_right _ (List.mem_append_right _ (List.mem_append_right _ (List.mem_append_right _ (List.mem_append_left _ h))))))))))
theorem wa_in11 {w : Cond} (h : w ∈ wa_11) : w ∈ wa_all := List.mem_append_right _ (List.mem_append_right _ (List.mem_append_right _ (List.mem_append_right _ (List.mem_append_right _ (List.mem_append_right _ (List.mem_append_right _ (List.mem_append_right _ (List.mem_append_right _ (List.mem_append_right _ (List.mem_append_right _ (List.mem_append_left _ h)))))))))))
theorem wa_in12 {w : Cond} (h : w ∈ wa_12) : w ∈ wa_all := List.mem_append_right _ (List.mem_append_right _ (List.mem_append_right _ (List.mem_append_right _ (List.mem_append_right _ (List.mem_append_right _ (List.mem_append_right _ (List.mem_append_right _ (List.mem_append_right _ (List.mem_append_right _ (List.mem_append_right _ (List.mem_append_right _ (List.mem_append_left _ h))))))))))))
theorem wa_in13 {w : Cond} (h : w ∈ wa_13) : w ∈ wa_all := List.mem_append_right _ (List.mem_append_right _ (List.mem_append_right _ (List.mem_append_right _ (List.mem_append_right _ (List.mem_append_right _ (List.mem_append_right _ (List.mem_append_right _ (List.mem_append_right _ (List.mem_append_right _ (List.mem_append_right _ (List.mem_append_right _ (List.mem_append_right _ (h)))))))))))))
theorem wm_0 : (.selects R_G y_G_collectNow y_G_collectNow : Cond) ∈ wa_all := wa_in0 (List.mem_of_getElem? (i := 0) rfl)
theorem wm_1 : (.selects R_G y_G_forgetMarks y_G_forgetMarks : Cond) ∈ wa_all := wa_in0 (List.mem_of_getElem? (i := 1) rfl)
theorem wm_2 : (.selects R_G y_G_lookAtRoots y_G_lookAtRoots : Cond) ∈ wa_all := wa_in0 (List.mem_of_getElem? (i := 2) rfl)
theorem wm_3 : (.selects R_G y_G_lookAt y_G_lookAt : Cond) ∈ wa_all := wa_in0 (List.mem_of_getElem? (i := 3) rfl)
theorem wm_4 : (.selects R_G y_G_startAt y_G_startAt : Cond) ∈ wa_all := wa_in0 (List.mem_of_getElem? (i := 4) rfl)
theorem wm_5 : (.selects R_G y_G_mark y_G_mark : Cond) ∈ wa_all := wa_in0 (List.mem_of_getElem? (i := 5) rfl)
theorem wm_6 : (.selects R_G y_G_lookAtMarkedObjects y_G_lookAtMarkedObjects : Cond) ∈ wa_all := wa_in0 (List.mem_of_getElem? (i := 6) rfl)
theorem wm_7 : (.selects R_G y_G_lookAtWords y_G_lookAtWords : Cond) ∈ wa_all := wa_in0 (List.mem_of_getElem? (i := 7) rfl)
theorem wm_8 : (.selects R_G y_G_giveUpUnmarkedObjects y_G_giveUpUnmarkedObjects : Cond) ∈ wa_all := wa_in0 (List.mem_of_getElem? (i := 8) rfl)
theorem wm_9 : (.selects R_G y_G_giveUp y_G_giveUp : Cond) ∈ wa_all := wa_in0 (List.mem_of_getElem? (i := 9) rfl)
theorem wm_10 : (.selects R_G y_G_freeBlocksWithoutObjects y_G_freeBlocksWithoutObjects : Cond) ∈ wa_all := wa_in0 (List.mem_of_getElem? (i := 10) rfl)
theorem wm_11 : (.selects R_G y_G_wordsInNoObject y_G_wordsInNoObject : Cond) ∈ wa_all := wa_in0 (List.mem_of_getElem? (i := 11) rfl)
theorem wm_12 : (.selects R_G y_G_isSplit y_G_isSplit : Cond) ∈ wa_all := wa_in0 (List.mem_of_getElem? (i := 12) rfl)
theorem wm_13 : (.selects R_G y_G_findRoom y_G_findRoom : Cond) ∈ wa_all := wa_in0 (List.mem_of_getElem? (i := 13) rfl)
theorem wm_14 : (.selects R_G y_G_findBlocks y_G_findBlocks : Cond) ∈ wa_all := wa_in0 (List.mem_of_getElem? (i := 14) rfl)
theorem wm_15 : (.selects R_G y_G_findEmptySlot y_G_findEmptySlot : Cond) ∈ wa_all := wa_in0 (List.mem_of_getElem? (i := 15) rfl)
theorem wm_16 : (.selects R_G y_G_placeSmall y_G_placeSmall : Cond) ∈ wa_all := wa_in0 (List.mem_of_getElem? (i := 16) rfl)
theorem wm_17 : (.selects R_G y_G_takeBlock y_G_takeBlock : Cond) ∈ wa_all := wa_in0 (List.mem_of_getElem? (i := 17) rfl)
theorem wm_18 : (.selects R_G y_G_placeObject y_G_placeObject : Cond) ∈ wa_all := wa_in0 (List.mem_of_getElem? (i := 18) rfl)
theorem wm_19 : (.selects R_G y_G_placeLarge y_G_placeLarge : Cond) ∈ wa_all := wa_in0 (List.mem_of_getElem? (i := 19) rfl)
theorem wm_20 : (.selects R_G y_G_checkInObject y_G_checkInObject : Cond) ∈ wa_all := wa_in0 (List.mem_of_getElem? (i := 20) rfl)
theorem wm_21 : (.selects R_M y_M_room y_M_room : Cond) ∈ wa_all := wa_in0 (List.mem_of_getElem? (i := 21) rfl)
theorem wm_22 : (.selects R_M y_M_smallRoom y_M_smallRoom : Cond) ∈ wa_all := wa_in0 (List.mem_of_getElem? (i := 22) rfl)
theorem wm_23 : (.selects R_M y_M_isOpen y_M_isOpen : Cond) ∈ wa_all := wa_in0 (List.mem_of_getElem? (i := 23) rfl)
theorem wm_24 : (.selects R_M y_M_largeRoom y_M_largeRoom : Cond) ∈ wa_all := wa_in0 (List.mem_of_getElem? (i := 24) rfl)
theorem wm_25 : (.selects R_M y_M_gather y_M_gather : Cond) ∈ wa_all := wa_in0 (List.mem_of_getElem? (i := 25) rfl)
theorem wm_26 : (.selects R_M y_M_lookAtAll y_M_lookAtAll : Cond) ∈ wa_all := wa_in0 (List.mem_of_getElem? (i := 26) rfl)
theorem wm_27 : (.selects R_M y_M_look y_M_look : Cond) ∈ wa_all := wa_in0 (List.mem_of_getElem? (i := 27) rfl)
theorem wm_28 : (.selects R_M y_M_objectAt y_M_objectAt : Cond) ∈ wa_all := wa_in0 (List.mem_of_getElem? (i := 28) rfl)
theorem wm_29 : (.selects R_M y_M_giveUp y_M_giveUp : Cond) ∈ wa_all := wa_in0 (List.mem_of_getElem? (i := 29) rfl)
theorem wm_30 : (.selects R_M y_M_isBare y_M_isBare : Cond) ∈ wa_all := wa_in0 (List.mem_of_getElem? (i := 30) rfl)
theorem wm_31 : (.selects R_M y_M_settle y_M_settle : Cond) ∈ wa_all := wa_in0 (List.mem_of_getElem? (i := 31) rfl)
theorem wm_32 : (.selects R_M y_M_bar y_M_bar : Cond) ∈ wa_all := wa_in0 (List.mem_of_getElem? (i := 32) rfl)
theorem wm_33 : (.initialized R_L : Cond) ∈ wa_all := wa_in0 (List.mem_of_getElem? (i := 33) rfl)
theorem wm_34 : (.initialized R_G : Cond) ∈ wa_all := wa_in0 (List.mem_of_getElem? (i := 34) rfl)
theorem wm_35 : (.initialized R_A : Cond) ∈ wa_all := wa_in0 (List.mem_of_getElem? (i := 35) rfl)
theorem wm_36 : (.initialized R_M : Cond) ∈ wa_all := wa_in0 (List.mem_of_getElem? (i := 36) rfl)
theorem wm_37 : (.initialized "java/lang/Throwable" : Cond) ∈ wa_all := wa_in0 (List.mem_of_getElem? (i := 37) rfl)
theorem wm_38 : (.initialized "java/lang/Exception" : Cond) ∈ wa_all := wa_in0 (List.mem_of_getElem? (i := 38) rfl)
theorem wm_39 : (.initialized "java/lang/RuntimeException" : Cond) ∈ wa_all := wa_in0 (List.mem_of_getElem? (i := 39) rfl)
theorem wm_40 : (.initialized "java/lang/IllegalArgumentException" : Cond) ∈ wa_all := wa_in1 (List.mem_of_getElem? (i := 0) rfl)
theorem wm_41 : (.initialized "java/lang/System" : Cond) ∈ wa_all := wa_in1 (List.mem_of_getElem? (i := 1) rfl)
theorem wm_42 : (.initialized "java/lang/IndexOutOfBoundsException" : Cond) ∈ wa_all := wa_in1 (List.mem_of_getElem? (i := 2) rfl)
theorem wm_43 : (.initialized "java/lang/IllegalStateException" : Cond) ∈ wa_all := wa_in1 (List.mem_of_getElem? (i := 3) rfl)
theorem wm_44 : (.classLink R_L 8 R_G : Cond) ∈ wa_all := wa_in1 (List.mem_of_getElem? (i := 4) rfl)
theorem wm_45 : (.instantiable R_G 12 : Cond) ∈ wa_all := wa_in1 (List.mem_of_getElem? (i := 5) rfl)
theorem wm_46 : (.methodLink R_L 34 y_G_init : Cond) ∈ wa_all := wa_in1 (List.mem_of_getElem? (i := 6) rfl)
theorem wm_47 : (.instanceMethod y_G_init : Cond) ∈ wa_all := wa_in1 (List.mem_of_getElem? (i := 7) rfl)
theorem wm_48 : (.code y_G_init prog_1_method_1_code 1 none : Cond) ∈ wa_all := wa_in1 (List.mem_of_getElem? (i := 8) rfl)
theorem wm_49 : (.methodLink R_G 3 objectInit : Cond) ∈ wa_all := wa_in1 (List.mem_of_getElem? (i := 9) rfl)
theorem wm_50 : (.instanceMethod objectInit : Cond) ∈ wa_all := wa_in1 (List.mem_of_getElem? (i := 10) rfl)
theorem wm_51 : (.code objectInit object_method_1_code 1 none : Cond) ∈ wa_all := wa_in1 (List.mem_of_getElem? (i := 11) rfl)
theorem wm_52 : (.methodLink R_G 48 y_A_fill1 : Cond) ∈ wa_all := wa_in1 (List.mem_of_getElem? (i := 12) rfl)
theorem wm_53 : (.static y_A_fill1 : Cond) ∈ wa_all := wa_in1 (List.mem_of_getElem? (i := 13) rfl)
theorem wm_54 : (.code y_A_fill1 prog_20_method_103_code 4 none : Cond) ∈ wa_all := wa_in1 (List.mem_of_getElem? (i := 14) rfl)
theorem wm_55 : (.fieldLink R_G 9 R_G "roots" "[I" : Cond) ∈ wa_all := wa_in1 (List.mem_of_getElem? (i := 15) rfl)
theorem wm_56 : (.fieldLink R_G 13 R_G "kinds" "[I" : Cond) ∈ wa_all := wa_in1 (List.mem_of_getElem? (i := 16) rfl)
theorem wm_57 : (.fieldLink R_G 16 R_G "doubtful" "[Z" : Cond) ∈ wa_all := wa_in1 (List.mem_of_getElem? (i := 17) rfl)
theorem wm_58 : (.fieldLink R_G 20 R_G "words" "[I" : Cond) ∈ wa_all := wa_in1 (List.mem_of_getElem? (i := 18) rfl)
theorem wm_59 : (.fieldLink R_G 23 R_G "starts" "[I" : Cond) ∈ wa_all := wa_in1 (List.mem_of_getElem? (i := 19) rfl)
theorem wm_60 : (.fieldLink R_G 26 R_G "lengths" "[I" : Cond) ∈ wa_all := wa_in1 (List.mem_of_getElem? (i := 20) rfl)
theorem wm_61 : (.fieldLink R_G 29 R_G "unread" "[Z" : Cond) ∈ wa_all := wa_in1 (List.mem_of_getElem? (i := 21) rfl)
theorem wm_62 : (.fieldLink R_G 32 R_G "marked" "[Z" : Cond) ∈ wa_all := wa_in1 (List.mem_of_getElem? (i := 22) rfl)
theorem wm_63 : (.fieldLink R_G 35 R_G "found" "[I" : Cond) ∈ wa_all := wa_in1 (List.mem_of_getElem? (i := 23) rfl)
theorem wm_64 : (.fieldLink R_G 38 R_G "foundCount" "I" : Cond) ∈ wa_all := wa_in1 (List.mem_of_getElem? (i := 24) rfl)
theorem wm_65 : (.fieldLink R_G 42 R_G "objectCount" "I" : Cond) ∈ wa_all := wa_in1 (List.mem_of_getElem? (i := 25) rfl)
theorem wm_66 : (.fieldLink R_G 45 R_G "collectionCount" "I" : Cond) ∈ wa_all := wa_in1 (List.mem_of_getElem? (i := 26) rfl)
theorem wm_67 : (.laysFinal R_G R_G "roots" "[I" : Cond) ∈ wa_all := wa_in1 (List.mem_of_getElem? (i := 27) rfl)
theorem wm_68 : (.soleField R_G "roots" : Cond) ∈ wa_all := wa_in1 (List.mem_of_getElem? (i := 28) rfl)
theorem wm_69 : (.laysFinal R_G R_G "kinds" "[I" : Cond) ∈ wa_all := wa_in1 (List.mem_of_getElem? (i := 29) rfl)
theorem wm_70 : (.soleField R_G "kinds" : Cond) ∈ wa_all := wa_in1 (List.mem_of_getElem? (i := 30) rfl)
theorem wm_71 : (.laysFinal R_G R_G "doubtful" "[Z" : Cond) ∈ wa_all := wa_in1 (List.mem_of_getElem? (i := 31) rfl)
theorem wm_72 : (.soleField R_G "doubtful" : Cond) ∈ wa_all := wa_in1 (List.mem_of_getElem? (i := 32) rfl)
theorem wm_73 : (.laysFinal R_G R_G "words" "[I" : Cond) ∈ wa_all := wa_in1 (List.mem_of_getElem? (i := 33) rfl)
theorem wm_74 : (.soleField R_G "words" : Cond) ∈ wa_all := wa_in1 (List.mem_of_getElem? (i := 34) rfl)
theorem wm_75 : (.laysFinal R_G R_G "starts" "[I" : Cond) ∈ wa_all := wa_in1 (List.mem_of_getElem? (i := 35) rfl)
theorem wm_76 : (.soleField R_G "starts" : Cond) ∈ wa_all := wa_in1 (List.mem_of_getElem? (i := 36) rfl)
theorem wm_77 : (.laysFinal R_G R_G "lengths" "[I" : Cond) ∈ wa_all := wa_in1 (List.mem_of_getElem? (i := 37) rfl)
theorem wm_78 : (.soleField R_G "lengths" : Cond) ∈ wa_all := wa_in1 (List.mem_of_getElem? (i := 38) rfl)
theorem wm_79 : (.laysFinal R_G R_G "unread" "[Z" : Cond) ∈ wa_all := wa_in1 (List.mem_of_getElem? (i := 39) rfl)
theorem wm_80 : (.soleField R_G "unread" : Cond) ∈ wa_all := wa_in2 (List.mem_of_getElem? (i := 0) rfl)
theorem wm_81 : (.laysFinal R_G R_G "marked" "[Z" : Cond) ∈ wa_all := wa_in2 (List.mem_of_getElem? (i := 1) rfl)
theorem wm_82 : (.soleField R_G "marked" : Cond) ∈ wa_all := wa_in2 (List.mem_of_getElem? (i := 2) rfl)
theorem wm_83 : (.laysFinal R_G R_G "found" "[I" : Cond) ∈ wa_all := wa_in2 (List.mem_of_getElem? (i := 3) rfl)
theorem wm_84 : (.soleField R_G "found" : Cond) ∈ wa_all := wa_in2 (List.mem_of_getElem? (i := 4) rfl)
theorem wm_85 : (.lays R_G R_G "foundCount" "I" : Cond) ∈ wa_all := wa_in2 (List.mem_of_getElem? (i := 5) rfl)
theorem wm_86 : (.soleField R_G "foundCount" : Cond) ∈ wa_all := wa_in2 (List.mem_of_getElem? (i := 6) rfl)
theorem wm_87 : (.lays R_G R_G "objectCount" "I" : Cond) ∈ wa_all := wa_in2 (List.mem_of_getElem? (i := 7) rfl)
theorem wm_88 : (.soleField R_G "objectCount" : Cond) ∈ wa_all := wa_in2 (List.mem_of_getElem? (i := 8) rfl)
theorem wm_89 : (.lays R_G R_G "collectionCount" "I" : Cond) ∈ wa_all := wa_in2 (List.mem_of_getElem? (i := 9) rfl)
theorem wm_90 : (.soleField R_G "collectionCount" : Cond) ∈ wa_all := wa_in2 (List.mem_of_getElem? (i := 10) rfl)
theorem wm_91 : (.superclass R_G "java/lang/Object" : Cond) ∈ wa_all := wa_in2 (List.mem_of_getElem? (i := 11) rfl)
theorem wm_92 : (.arrayClass .int : Cond) ∈ wa_all := wa_in2 (List.mem_of_getElem? (i := 12) rfl)
theorem wm_93 : (.arrayClass .boolean : Cond) ∈ wa_all := wa_in2 (List.mem_of_getElem? (i := 13) rfl)
theorem wm_94 : (.methodLink R_L 63 y_G_collect : Cond) ∈ wa_all := wa_in2 (List.mem_of_getElem? (i := 14) rfl)
theorem wm_95 : (.instanceMethod y_G_collect : Cond) ∈ wa_all := wa_in2 (List.mem_of_getElem? (i := 15) rfl)
theorem wm_96 : (.selects R_G y_G_collect y_G_collect : Cond) ∈ wa_all := wa_in2 (List.mem_of_getElem? (i := 16) rfl)
theorem wm_97 : (.code y_G_collect prog_1_method_7_code 1 (some .int) : Cond) ∈ wa_all := wa_in2 (List.mem_of_getElem? (i := 17) rfl)
theorem wm_98 : (.methodLink R_G 65 y_G_collectNow : Cond) ∈ wa_all := wa_in2 (List.mem_of_getElem? (i := 18) rfl)
theorem wm_99 : (.privateMethod y_G_collectNow : Cond) ∈ wa_all := wa_in2 (List.mem_of_getElem? (i := 19) rfl)
theorem wm_100 : (.instanceMethod y_G_collectNow : Cond) ∈ wa_all := wa_in2 (List.mem_of_getElem? (i := 20) rfl)
theorem wm_101 : (.code y_G_collectNow prog_1_method_31_code 2 (some .int) : Cond) ∈ wa_all := wa_in2 (List.mem_of_getElem? (i := 21) rfl)
theorem wm_102 : (.methodLink R_G 136 y_G_forgetMarks : Cond) ∈ wa_all := wa_in2 (List.mem_of_getElem? (i := 22) rfl)
theorem wm_103 : (.privateMethod y_G_forgetMarks : Cond) ∈ wa_all := wa_in2 (List.mem_of_getElem? (i := 23) rfl)
theorem wm_104 : (.instanceMethod y_G_forgetMarks : Cond) ∈ wa_all := wa_in2 (List.mem_of_getElem? (i := 24) rfl)
theorem wm_105 : (.code y_G_forgetMarks prog_1_method_32_code 2 none : Cond) ∈ wa_all := wa_in2 (List.mem_of_getElem? (i := 25) rfl)
theorem wm_106 : (.methodLink R_G 139 y_G_lookAtRoots : Cond) ∈ wa_all := wa_in2 (List.mem_of_getElem? (i := 26) rfl)
theorem wm_107 : (.privateMethod y_G_lookAtRoots : Cond) ∈ wa_all := wa_in2 (List.mem_of_getElem? (i := 27) rfl)
theorem wm_108 : (.instanceMethod y_G_lookAtRoots : Cond) ∈ wa_all := wa_in2 (List.mem_of_getElem? (i := 28) rfl)
theorem wm_109 : (.code y_G_lookAtRoots prog_1_method_33_code 2 none : Cond) ∈ wa_all := wa_in2 (List.mem_of_getElem? (i := 29) rfl)
theorem wm_110 : (.methodLink R_G 151 y_G_lookAt : Cond) ∈ wa_all := wa_in2 (List.mem_of_getElem? (i := 30) rfl)
theorem wm_111 : (.privateMethod y_G_lookAt : Cond) ∈ wa_all := wa_in2 (List.mem_of_getElem? (i := 31) rfl)
theorem wm_112 : (.instanceMethod y_G_lookAt : Cond) ∈ wa_all := wa_in2 (List.mem_of_getElem? (i := 32) rfl)
theorem wm_113 : (.code y_G_lookAt prog_1_method_36_code 4 none : Cond) ∈ wa_all := wa_in2 (List.mem_of_getElem? (i := 33) rfl)
theorem wm_114 : (.methodLink R_G 113 y_G_isAddress : Cond) ∈ wa_all := wa_in2 (List.mem_of_getElem? (i := 34) rfl)
theorem wm_115 : (.static y_G_isAddress : Cond) ∈ wa_all := wa_in2 (List.mem_of_getElem? (i := 35) rfl)
theorem wm_116 : (.code y_G_isAddress prog_1_method_15_code 1 (some .boolean) : Cond) ∈ wa_all := wa_in2 (List.mem_of_getElem? (i := 36) rfl)
theorem wm_117 : (.methodLink R_G 95 y_G_startAt : Cond) ∈ wa_all := wa_in2 (List.mem_of_getElem? (i := 37) rfl)
theorem wm_118 : (.privateMethod y_G_startAt : Cond) ∈ wa_all := wa_in2 (List.mem_of_getElem? (i := 38) rfl)
theorem wm_119 : (.instanceMethod y_G_startAt : Cond) ∈ wa_all := wa_in2 (List.mem_of_getElem? (i := 39) rfl)
theorem wm_120 : (.code y_G_startAt prog_1_method_19_code 2 (some .int) : Cond) ∈ wa_all := wa_in3 (List.mem_of_getElem? (i := 0) rfl)
theorem wm_121 : (.methodLink R_G 157 y_G_mark : Cond) ∈ wa_all := wa_in3 (List.mem_of_getElem? (i := 1) rfl)
theorem wm_122 : (.privateMethod y_G_mark : Cond) ∈ wa_all := wa_in3 (List.mem_of_getElem? (i := 2) rfl)
theorem wm_123 : (.instanceMethod y_G_mark : Cond) ∈ wa_all := wa_in3 (List.mem_of_getElem? (i := 3) rfl)
theorem wm_124 : (.code y_G_mark prog_1_method_37_code 2 none : Cond) ∈ wa_all := wa_in3 (List.mem_of_getElem? (i := 4) rfl)
theorem wm_125 : (.methodLink R_G 142 y_G_lookAtMarkedObjects : Cond) ∈ wa_all := wa_in3 (List.mem_of_getElem? (i := 5) rfl)
theorem wm_126 : (.privateMethod y_G_lookAtMarkedObjects : Cond) ∈ wa_all := wa_in3 (List.mem_of_getElem? (i := 6) rfl)
theorem wm_127 : (.instanceMethod y_G_lookAtMarkedObjects : Cond) ∈ wa_all := wa_in3 (List.mem_of_getElem? (i := 7) rfl)
theorem wm_128 : (.code y_G_lookAtMarkedObjects prog_1_method_34_code 3 none : Cond) ∈ wa_all := wa_in3 (List.mem_of_getElem? (i := 8) rfl)
theorem wm_129 : (.methodLink R_G 154 y_G_lookAtWords : Cond) ∈ wa_all := wa_in3 (List.mem_of_getElem? (i := 9) rfl)
theorem wm_130 : (.privateMethod y_G_lookAtWords : Cond) ∈ wa_all := wa_in3 (List.mem_of_getElem? (i := 10) rfl)
theorem wm_131 : (.instanceMethod y_G_lookAtWords : Cond) ∈ wa_all := wa_in3 (List.mem_of_getElem? (i := 11) rfl)
theorem wm_132 : (.code y_G_lookAtWords prog_1_method_35_code 4 none : Cond) ∈ wa_all := wa_in3 (List.mem_of_getElem? (i := 12) rfl)
theorem wm_133 : (.methodLink R_G 145 y_G_giveUpUnmarkedObjects : Cond) ∈ wa_all := wa_in3 (List.mem_of_getElem? (i := 13) rfl)
theorem wm_134 : (.privateMethod y_G_giveUpUnmarkedObjects : Cond) ∈ wa_all := wa_in3 (List.mem_of_getElem? (i := 14) rfl)
theorem wm_135 : (.instanceMethod y_G_giveUpUnmarkedObjects : Cond) ∈ wa_all := wa_in3 (List.mem_of_getElem? (i := 15) rfl)
theorem wm_136 : (.code y_G_giveUpUnmarkedObjects prog_1_method_38_code 2 none : Cond) ∈ wa_all := wa_in3 (List.mem_of_getElem? (i := 16) rfl)
theorem wm_137 : (.methodLink R_G 160 y_G_giveUp : Cond) ∈ wa_all := wa_in3 (List.mem_of_getElem? (i := 17) rfl)
theorem wm_138 : (.privateMethod y_G_giveUp : Cond) ∈ wa_all := wa_in3 (List.mem_of_getElem? (i := 18) rfl)
theorem wm_139 : (.instanceMethod y_G_giveUp : Cond) ∈ wa_all := wa_in3 (List.mem_of_getElem? (i := 19) rfl)
theorem wm_140 : (.code y_G_giveUp prog_1_method_39_code 3 none : Cond) ∈ wa_all := wa_in3 (List.mem_of_getElem? (i := 20) rfl)
theorem wm_141 : (.methodLink R_G 133 y_A_fill3 : Cond) ∈ wa_all := wa_in3 (List.mem_of_getElem? (i := 21) rfl)
theorem wm_142 : (.static y_A_fill3 : Cond) ∈ wa_all := wa_in3 (List.mem_of_getElem? (i := 22) rfl)
theorem wm_143 : (.code y_A_fill3 prog_20_method_104_code 5 none : Cond) ∈ wa_all := wa_in3 (List.mem_of_getElem? (i := 23) rfl)
theorem wm_144 : (.methodLink R_A 13 y_A_rangeCheck : Cond) ∈ wa_all := wa_in3 (List.mem_of_getElem? (i := 24) rfl)
theorem wm_145 : (.static y_A_rangeCheck : Cond) ∈ wa_all := wa_in3 (List.mem_of_getElem? (i := 25) rfl)
theorem wm_146 : (.code y_A_rangeCheck prog_20_method_30_code 3 none : Cond) ∈ wa_all := wa_in3 (List.mem_of_getElem? (i := 26) rfl)
theorem wm_147 : (.classLink R_A 43 "java/lang/IllegalArgumentException" : Cond) ∈ wa_all := wa_in3 (List.mem_of_getElem? (i := 27) rfl)
theorem wm_148 : (.instantiable "java/lang/IllegalArgumentException" 6 : Cond) ∈ wa_all := wa_in3 (List.mem_of_getElem? (i := 28) rfl)
theorem wm_149 : (.castable "java/lang/IllegalArgumentException" "java/lang/IllegalArgumentException" : Cond) ∈ wa_all := wa_in3 (List.mem_of_getElem? (i := 29) rfl)
theorem wm_150 : (.declares ⟨"java/lang/RuntimeException", "<init>", "()V"⟩ : Cond) ∈ wa_all := wa_in3 (List.mem_of_getElem? (i := 30) rfl)
theorem wm_151 : (.declares ⟨"java/lang/RuntimeException", "<init>", "(Ljava/lang/String;)V"⟩ : Cond) ∈ wa_all := wa_in3 (List.mem_of_getElem? (i := 31) rfl)
theorem wm_152 : (.declares ⟨"java/lang/Exception", "<init>", "()V"⟩ : Cond) ∈ wa_all := wa_in3 (List.mem_of_getElem? (i := 32) rfl)
theorem wm_153 : (.declares ⟨"java/lang/Exception", "<init>", "(Ljava/lang/String;)V"⟩ : Cond) ∈ wa_all := wa_in3 (List.mem_of_getElem? (i := 33) rfl)
theorem wm_154 : (.declares ⟨"java/lang/Throwable", "<init>", "()V"⟩ : Cond) ∈ wa_all := wa_in3 (List.mem_of_getElem? (i := 34) rfl)
theorem wm_155 : (.declares ⟨"java/lang/Throwable", "<init>", "(Ljava/lang/String;)V"⟩ : Cond) ∈ wa_all := wa_in3 (List.mem_of_getElem? (i := 35) rfl)
theorem wm_156 : (.selects "java/lang/IllegalArgumentException" ⟨"java/lang/Throwable", "fillInStackTrace", "(I)Ljava/lang/Throwable;"⟩ ⟨"java/lang/Throwable", "fillInStackTrace", "(I)Ljava/lang/Throwable;"⟩ : Cond) ∈ wa_all := wa_in3 (List.mem_of_getElem? (i := 36) rfl)
theorem wm_157 : (.selects "java/lang/IllegalArgumentException" ⟨"java/lang/Throwable", "fillInStackTrace", "()Ljava/lang/Throwable;"⟩ ⟨"java/lang/Throwable", "fillInStackTrace", "()Ljava/lang/Throwable;"⟩ : Cond) ∈ wa_all := wa_in3 (List.mem_of_getElem? (i := 37) rfl)
theorem wm_158 : (.lays "java/lang/IllegalArgumentException" "java/lang/Throwable" "cause" "Ljava/lang/Throwable;" : Cond) ∈ wa_all := wa_in3 (List.mem_of_getElem? (i := 38) rfl)
theorem wm_159 : (.lays "java/lang/Throwable" "java/lang/Throwable" "cause" "Ljava/lang/Throwable;" : Cond) ∈ wa_all := wa_in3 (List.mem_of_getElem? (i := 39) rfl)
theorem wm_160 : (.lays "java/lang/IllegalArgumentException" "java/lang/Throwable" "stackTrace" "[Ljava/lang/StackTraceElement;" : Cond) ∈ wa_all := wa_in4 (List.mem_of_getElem? (i := 0) rfl)
theorem wm_161 : (.lays "java/lang/Throwable" "java/lang/Throwable" "stackTrace" "[Ljava/lang/StackTraceElement;" : Cond) ∈ wa_all := wa_in4 (List.mem_of_getElem? (i := 1) rfl)
theorem wm_162 : (.lays "java/lang/IllegalArgumentException" "java/lang/Throwable" "suppressedExceptions" "Ljava/util/List;" : Cond) ∈ wa_all := wa_in4 (List.mem_of_getElem? (i := 2) rfl)
theorem wm_163 : (.lays "java/lang/Throwable" "java/lang/Throwable" "suppressedExceptions" "Ljava/util/List;" : Cond) ∈ wa_all := wa_in4 (List.mem_of_getElem? (i := 3) rfl)
theorem wm_164 : (.lays "java/lang/IllegalArgumentException" "java/lang/Throwable" "detailMessage" "Ljava/lang/String;" : Cond) ∈ wa_all := wa_in4 (List.mem_of_getElem? (i := 4) rfl)
theorem wm_165 : (.lays "java/lang/Throwable" "java/lang/Throwable" "detailMessage" "Ljava/lang/String;" : Cond) ∈ wa_all := wa_in4 (List.mem_of_getElem? (i := 5) rfl)
theorem wm_166 : (.lays "java/lang/IllegalArgumentException" "java/lang/Throwable" "backtrace" "Ljava/lang/Object;" : Cond) ∈ wa_all := wa_in4 (List.mem_of_getElem? (i := 6) rfl)
theorem wm_167 : (.lays "java/lang/Throwable" "java/lang/Throwable" "backtrace" "Ljava/lang/Object;" : Cond) ∈ wa_all := wa_in4 (List.mem_of_getElem? (i := 7) rfl)
theorem wm_168 : (.fieldLink "java/lang/Throwable" 198 "java/lang/Throwable" "backtrace" "Ljava/lang/Object;" : Cond) ∈ wa_all := wa_in4 (List.mem_of_getElem? (i := 8) rfl)
theorem wm_169 : (.superclass "java/lang/Throwable" "java/lang/Object" : Cond) ∈ wa_all := wa_in4 (List.mem_of_getElem? (i := 9) rfl)
theorem wm_170 : (.instanceMethod ⟨"java/lang/Throwable", "<init>", "()V"⟩ : Cond) ∈ wa_all := wa_in4 (List.mem_of_getElem? (i := 10) rfl)
theorem wm_171 : (.code ⟨"java/lang/Throwable", "<init>", "()V"⟩ prog_19_method_1_code 1 none : Cond) ∈ wa_all := wa_in4 (List.mem_of_getElem? (i := 11) rfl)
theorem wm_172 : (.methodLink "java/lang/Throwable" 1 objectInit : Cond) ∈ wa_all := wa_in4 (List.mem_of_getElem? (i := 12) rfl)
theorem wm_173 : (.fieldLink "java/lang/Throwable" 13 "java/lang/Throwable" "UNASSIGNED_STACK" "[Ljava/lang/StackTraceElement;" : Cond) ∈ wa_all := wa_in4 (List.mem_of_getElem? (i := 13) rfl)
theorem wm_174 : (.laysStatic "java/lang/Throwable" "UNASSIGNED_STACK" "[Ljava/lang/StackTraceElement;" : Cond) ∈ wa_all := wa_in4 (List.mem_of_getElem? (i := 14) rfl)
theorem wm_175 : (.fieldLink "java/lang/Throwable" 20 "java/lang/Throwable" "SUPPRESSED_SENTINEL" "Ljava/util/List;" : Cond) ∈ wa_all := wa_in4 (List.mem_of_getElem? (i := 15) rfl)
theorem wm_176 : (.laysStatic "java/lang/Throwable" "SUPPRESSED_SENTINEL" "Ljava/util/List;" : Cond) ∈ wa_all := wa_in4 (List.mem_of_getElem? (i := 16) rfl)
theorem wm_177 : (.methodLink "java/lang/Throwable" 27 ⟨"java/lang/Throwable", "fillInStackTrace", "()Ljava/lang/Throwable;"⟩ : Cond) ∈ wa_all := wa_in4 (List.mem_of_getElem? (i := 17) rfl)
theorem wm_178 : (.instanceMethod ⟨"java/lang/Throwable", "fillInStackTrace", "()Ljava/lang/Throwable;"⟩ : Cond) ∈ wa_all := wa_in4 (List.mem_of_getElem? (i := 18) rfl)
theorem wm_179 : (.sameMethod "java/lang/Throwable" "java/lang/Throwable" "fillInStackTrace" "()Ljava/lang/Throwable;" : Cond) ∈ wa_all := wa_in4 (List.mem_of_getElem? (i := 19) rfl)
theorem wm_180 : (.selects "java/lang/IllegalStateException" ⟨"java/lang/Throwable", "fillInStackTrace", "()Ljava/lang/Throwable;"⟩ ⟨"java/lang/Throwable", "fillInStackTrace", "()Ljava/lang/Throwable;"⟩ : Cond) ∈ wa_all := wa_in4 (List.mem_of_getElem? (i := 20) rfl)
theorem wm_181 : (.selects "java/lang/IndexOutOfBoundsException" ⟨"java/lang/Throwable", "fillInStackTrace", "()Ljava/lang/Throwable;"⟩ ⟨"java/lang/Throwable", "fillInStackTrace", "()Ljava/lang/Throwable;"⟩ : Cond) ∈ wa_all := wa_in4 (List.mem_of_getElem? (i := 21) rfl)
theorem wm_182 : (.codeSync ⟨"java/lang/Throwable", "fillInStackTrace", "()Ljava/lang/Throwable;"⟩ prog_19_method_18_code 1 (some (.object "java/lang/Throwable")) : Cond) ∈ wa_all := wa_in4 (List.mem_of_getElem? (i := 22) rfl)
theorem wm_183 : (.methodLink "java/lang/Throwable" 202 ⟨"java/lang/Throwable", "fillInStackTrace", "(I)Ljava/lang/Throwable;"⟩ : Cond) ∈ wa_all := wa_in4 (List.mem_of_getElem? (i := 23) rfl)
theorem wm_184 : (.privateMethod ⟨"java/lang/Throwable", "fillInStackTrace", "(I)Ljava/lang/Throwable;"⟩ : Cond) ∈ wa_all := wa_in4 (List.mem_of_getElem? (i := 24) rfl)
theorem wm_185 : (.instanceMethod ⟨"java/lang/Throwable", "fillInStackTrace", "(I)Ljava/lang/Throwable;"⟩ : Cond) ∈ wa_all := wa_in4 (List.mem_of_getElem? (i := 25) rfl)
theorem wm_186 : (.instantiable "java/lang/Throwable" 6 : Cond) ∈ wa_all := wa_in4 (List.mem_of_getElem? (i := 26) rfl)
theorem wm_187 : (.native ⟨"java/lang/Throwable", "fillInStackTrace", "(I)Ljava/lang/Throwable;"⟩ : Cond) ∈ wa_all := wa_in4 (List.mem_of_getElem? (i := 27) rfl)
theorem wm_188 : (.arrayClass .byte : Cond) ∈ wa_all := wa_in4 (List.mem_of_getElem? (i := 28) rfl)
theorem wm_189 : (.native ⟨"java/lang/Object", "clone", "()Ljava/lang/Object;"⟩ : Cond) ∈ wa_all := wa_in4 (List.mem_of_getElem? (i := 29) rfl)
theorem wm_190 : (.instanceMethod ⟨"java/lang/Object", "clone", "()Ljava/lang/Object;"⟩ : Cond) ∈ wa_all := wa_in4 (List.mem_of_getElem? (i := 30) rfl)
theorem wm_191 : (.methodLink R_A 343 ⟨R_A, "checkLength", "(II)V"⟩ : Cond) ∈ wa_all := wa_in4 (List.mem_of_getElem? (i := 31) rfl)
theorem wm_192 : (.static ⟨R_A, "checkLength", "(II)V"⟩ : Cond) ∈ wa_all := wa_in4 (List.mem_of_getElem? (i := 32) rfl)
theorem wm_193 : (.code ⟨R_A, "checkLength", "(II)V"⟩ prog_20_method_131_code 2 none : Cond) ∈ wa_all := wa_in4 (List.mem_of_getElem? (i := 33) rfl)
theorem wm_194 : (.methodLink R_A 65 ⟨"java/lang/IllegalArgumentException", "<init>", "(Ljava/lang/String;)V"⟩ : Cond) ∈ wa_all := wa_in4 (List.mem_of_getElem? (i := 34) rfl)
theorem wm_195 : (.instanceMethod ⟨"java/lang/IllegalArgumentException", "<init>", "(Ljava/lang/String;)V"⟩ : Cond) ∈ wa_all := wa_in4 (List.mem_of_getElem? (i := 35) rfl)
theorem wm_196 : (.code ⟨"java/lang/IllegalArgumentException", "<init>", "(Ljava/lang/String;)V"⟩ prog_8_method_2_code 2 none : Cond) ∈ wa_all := wa_in4 (List.mem_of_getElem? (i := 36) rfl)
theorem wm_197 : (.methodLink "java/lang/IllegalArgumentException" 7 ⟨"java/lang/RuntimeException", "<init>", "(Ljava/lang/String;)V"⟩ : Cond) ∈ wa_all := wa_in4 (List.mem_of_getElem? (i := 37) rfl)
theorem wm_198 : (.instanceMethod ⟨"java/lang/RuntimeException", "<init>", "(Ljava/lang/String;)V"⟩ : Cond) ∈ wa_all := wa_in4 (List.mem_of_getElem? (i := 38) rfl)
theorem wm_199 : (.code ⟨"java/lang/RuntimeException", "<init>", "(Ljava/lang/String;)V"⟩ prog_13_method_2_code 2 none : Cond) ∈ wa_all := wa_in4 (List.mem_of_getElem? (i := 39) rfl)
theorem wm_200 : (.methodLink "java/lang/RuntimeException" 7 ⟨"java/lang/Exception", "<init>", "(Ljava/lang/String;)V"⟩ : Cond) ∈ wa_all := wa_in5 (List.mem_of_getElem? (i := 0) rfl)
theorem wm_201 : (.instanceMethod ⟨"java/lang/Exception", "<init>", "(Ljava/lang/String;)V"⟩ : Cond) ∈ wa_all := wa_in5 (List.mem_of_getElem? (i := 1) rfl)
theorem wm_202 : (.code ⟨"java/lang/Exception", "<init>", "(Ljava/lang/String;)V"⟩ prog_7_method_2_code 2 none : Cond) ∈ wa_all := wa_in5 (List.mem_of_getElem? (i := 2) rfl)
theorem wm_203 : (.methodLink "java/lang/Exception" 7 ⟨"java/lang/Throwable", "<init>", "(Ljava/lang/String;)V"⟩ : Cond) ∈ wa_all := wa_in5 (List.mem_of_getElem? (i := 3) rfl)
theorem wm_204 : (.instanceMethod ⟨"java/lang/Throwable", "<init>", "(Ljava/lang/String;)V"⟩ : Cond) ∈ wa_all := wa_in5 (List.mem_of_getElem? (i := 4) rfl)
theorem wm_205 : (.code ⟨"java/lang/Throwable", "<init>", "(Ljava/lang/String;)V"⟩ prog_19_method_2_code 2 none : Cond) ∈ wa_all := wa_in5 (List.mem_of_getElem? (i := 5) rfl)
theorem wm_206 : (.fieldLink "java/lang/Throwable" 198 "java/lang/Throwable" "backtrace" "Ljava/lang/Object;" : Cond) ∈ wa_all := wa_in5 (List.mem_of_getElem? (i := 6) rfl)
theorem wm_207 : (.fieldLink "java/lang/Throwable" 31 "java/lang/Throwable" "detailMessage" "Ljava/lang/String;" : Cond) ∈ wa_all := wa_in5 (List.mem_of_getElem? (i := 7) rfl)
theorem wm_208 : (.fieldLink "java/lang/Throwable" 7 "java/lang/Throwable" "cause" "Ljava/lang/Throwable;" : Cond) ∈ wa_all := wa_in5 (List.mem_of_getElem? (i := 8) rfl)
theorem wm_209 : (.fieldLink "java/lang/Throwable" 17 "java/lang/Throwable" "stackTrace" "[Ljava/lang/StackTraceElement;" : Cond) ∈ wa_all := wa_in5 (List.mem_of_getElem? (i := 9) rfl)
theorem wm_210 : (.fieldLink "java/lang/Throwable" 24 "java/lang/Throwable" "suppressedExceptions" "Ljava/util/List;" : Cond) ∈ wa_all := wa_in5 (List.mem_of_getElem? (i := 10) rfl)
theorem wm_211 : (.soleField "java/lang/Throwable" "backtrace" : Cond) ∈ wa_all := wa_in5 (List.mem_of_getElem? (i := 11) rfl)
theorem wm_212 : (.soleField "java/lang/Throwable" "detailMessage" : Cond) ∈ wa_all := wa_in5 (List.mem_of_getElem? (i := 12) rfl)
theorem wm_213 : (.soleField "java/lang/Throwable" "cause" : Cond) ∈ wa_all := wa_in5 (List.mem_of_getElem? (i := 13) rfl)
theorem wm_214 : (.soleField "java/lang/Throwable" "stackTrace" : Cond) ∈ wa_all := wa_in5 (List.mem_of_getElem? (i := 14) rfl)
theorem wm_215 : (.lays "java/lang/IllegalArgumentException" "java/lang/Throwable" "depth" "I" : Cond) ∈ wa_all := wa_in5 (List.mem_of_getElem? (i := 15) rfl)
theorem wm_216 : (.soleField "java/lang/Throwable" "depth" : Cond) ∈ wa_all := wa_in5 (List.mem_of_getElem? (i := 16) rfl)
theorem wm_217 : (.soleField "java/lang/Throwable" "suppressedExceptions" : Cond) ∈ wa_all := wa_in5 (List.mem_of_getElem? (i := 17) rfl)
theorem wm_218 : (.superclass "java/lang/IllegalArgumentException" "java/lang/RuntimeException" : Cond) ∈ wa_all := wa_in5 (List.mem_of_getElem? (i := 18) rfl)
theorem wm_219 : (.instanceMethod ⟨"java/lang/IndexOutOfBoundsException", "<init>", "(Ljava/lang/String;)V"⟩ : Cond) ∈ wa_all := wa_in5 (List.mem_of_getElem? (i := 19) rfl)
theorem wm_220 : (.code ⟨"java/lang/IndexOutOfBoundsException", "<init>", "(Ljava/lang/String;)V"⟩ prog_10_method_2_code 2 none : Cond) ∈ wa_all := wa_in5 (List.mem_of_getElem? (i := 20) rfl)
theorem wm_221 : (.methodLink "java/lang/IndexOutOfBoundsException" 7 ⟨"java/lang/RuntimeException", "<init>", "(Ljava/lang/String;)V"⟩ : Cond) ∈ wa_all := wa_in5 (List.mem_of_getElem? (i := 21) rfl)
theorem wm_222 : (.methodLink R_G 148 y_G_freeBlocksWithoutObjects : Cond) ∈ wa_all := wa_in5 (List.mem_of_getElem? (i := 22) rfl)
theorem wm_223 : (.privateMethod y_G_freeBlocksWithoutObjects : Cond) ∈ wa_all := wa_in5 (List.mem_of_getElem? (i := 23) rfl)
theorem wm_224 : (.instanceMethod y_G_freeBlocksWithoutObjects : Cond) ∈ wa_all := wa_in5 (List.mem_of_getElem? (i := 24) rfl)
theorem wm_225 : (.code y_G_freeBlocksWithoutObjects prog_1_method_40_code 2 none : Cond) ∈ wa_all := wa_in5 (List.mem_of_getElem? (i := 25) rfl)
theorem wm_226 : (.methodLink R_G 105 y_G_wordsInNoObject : Cond) ∈ wa_all := wa_in5 (List.mem_of_getElem? (i := 26) rfl)
theorem wm_227 : (.privateMethod y_G_wordsInNoObject : Cond) ∈ wa_all := wa_in5 (List.mem_of_getElem? (i := 27) rfl)
theorem wm_228 : (.instanceMethod y_G_wordsInNoObject : Cond) ∈ wa_all := wa_in5 (List.mem_of_getElem? (i := 28) rfl)
theorem wm_229 : (.code y_G_wordsInNoObject prog_1_method_21_code 4 (some .int) : Cond) ∈ wa_all := wa_in5 (List.mem_of_getElem? (i := 29) rfl)
theorem wm_230 : (.methodLink R_L 67 y_G_base : Cond) ∈ wa_all := wa_in5 (List.mem_of_getElem? (i := 30) rfl)
theorem wm_231 : (.instanceMethod y_G_base : Cond) ∈ wa_all := wa_in5 (List.mem_of_getElem? (i := 31) rfl)
theorem wm_232 : (.selects R_G y_G_base y_G_base : Cond) ∈ wa_all := wa_in5 (List.mem_of_getElem? (i := 32) rfl)
theorem wm_233 : (.code y_G_base prog_1_method_8_code 3 (some .int) : Cond) ∈ wa_all := wa_in5 (List.mem_of_getElem? (i := 33) rfl)
theorem wm_234 : (.methodLink R_L 71 y_G_size : Cond) ∈ wa_all := wa_in5 (List.mem_of_getElem? (i := 34) rfl)
theorem wm_235 : (.instanceMethod y_G_size : Cond) ∈ wa_all := wa_in5 (List.mem_of_getElem? (i := 35) rfl)
theorem wm_236 : (.selects R_G y_G_size y_G_size : Cond) ∈ wa_all := wa_in5 (List.mem_of_getElem? (i := 36) rfl)
theorem wm_237 : (.code y_G_size prog_1_method_9_code 3 (some .int) : Cond) ∈ wa_all := wa_in5 (List.mem_of_getElem? (i := 37) rfl)
theorem wm_238 : (.methodLink R_L 75 y_G_silent : Cond) ∈ wa_all := wa_in5 (List.mem_of_getElem? (i := 38) rfl)
theorem wm_239 : (.instanceMethod y_G_silent : Cond) ∈ wa_all := wa_in5 (List.mem_of_getElem? (i := 39) rfl)
theorem wm_240 : (.selects R_G y_G_silent y_G_silent : Cond) ∈ wa_all := wa_in6 (List.mem_of_getElem? (i := 0) rfl)
theorem wm_241 : (.code y_G_silent prog_1_method_10_code 3 (some .boolean) : Cond) ∈ wa_all := wa_in6 (List.mem_of_getElem? (i := 1) rfl)
theorem wm_242 : (.methodLink R_L 80 y_G_block : Cond) ∈ wa_all := wa_in6 (List.mem_of_getElem? (i := 2) rfl)
theorem wm_243 : (.instanceMethod y_G_block : Cond) ∈ wa_all := wa_in6 (List.mem_of_getElem? (i := 3) rfl)
theorem wm_244 : (.selects R_G y_G_block y_G_block : Cond) ∈ wa_all := wa_in6 (List.mem_of_getElem? (i := 4) rfl)
theorem wm_245 : (.code y_G_block prog_1_method_11_code 2 (some .int) : Cond) ∈ wa_all := wa_in6 (List.mem_of_getElem? (i := 5) rfl)
theorem wm_246 : (.methodLink R_G 98 y_G_isBlock : Cond) ∈ wa_all := wa_in6 (List.mem_of_getElem? (i := 6) rfl)
theorem wm_247 : (.static y_G_isBlock : Cond) ∈ wa_all := wa_in6 (List.mem_of_getElem? (i := 7) rfl)
theorem wm_248 : (.code y_G_isBlock prog_1_method_16_code 1 (some .boolean) : Cond) ∈ wa_all := wa_in6 (List.mem_of_getElem? (i := 8) rfl)
theorem wm_249 : (.methodLink R_L 84 y_G_empty : Cond) ∈ wa_all := wa_in6 (List.mem_of_getElem? (i := 9) rfl)
theorem wm_250 : (.instanceMethod y_G_empty : Cond) ∈ wa_all := wa_in6 (List.mem_of_getElem? (i := 10) rfl)
theorem wm_251 : (.selects R_G y_G_empty y_G_empty : Cond) ∈ wa_all := wa_in6 (List.mem_of_getElem? (i := 11) rfl)
theorem wm_252 : (.code y_G_empty prog_1_method_12_code 2 (some .int) : Cond) ∈ wa_all := wa_in6 (List.mem_of_getElem? (i := 12) rfl)
theorem wm_253 : (.methodLink R_G 102 y_G_isSplit : Cond) ∈ wa_all := wa_in6 (List.mem_of_getElem? (i := 13) rfl)
theorem wm_254 : (.privateMethod y_G_isSplit : Cond) ∈ wa_all := wa_in6 (List.mem_of_getElem? (i := 14) rfl)
theorem wm_255 : (.instanceMethod y_G_isSplit : Cond) ∈ wa_all := wa_in6 (List.mem_of_getElem? (i := 15) rfl)
theorem wm_256 : (.code y_G_isSplit prog_1_method_20_code 2 (some .boolean) : Cond) ∈ wa_all := wa_in6 (List.mem_of_getElem? (i := 16) rfl)
theorem wm_257 : (.methodLink R_L 88 y_G_objects : Cond) ∈ wa_all := wa_in6 (List.mem_of_getElem? (i := 17) rfl)
theorem wm_258 : (.instanceMethod y_G_objects : Cond) ∈ wa_all := wa_in6 (List.mem_of_getElem? (i := 18) rfl)
theorem wm_259 : (.selects R_G y_G_objects y_G_objects : Cond) ∈ wa_all := wa_in6 (List.mem_of_getElem? (i := 19) rfl)
theorem wm_260 : (.code y_G_objects prog_1_method_13_code 1 (some .int) : Cond) ∈ wa_all := wa_in6 (List.mem_of_getElem? (i := 20) rfl)
theorem wm_261 : (.methodLink R_L 92 y_G_collections : Cond) ∈ wa_all := wa_in6 (List.mem_of_getElem? (i := 21) rfl)
theorem wm_262 : (.instanceMethod y_G_collections : Cond) ∈ wa_all := wa_in6 (List.mem_of_getElem? (i := 22) rfl)
theorem wm_263 : (.selects R_G y_G_collections y_G_collections : Cond) ∈ wa_all := wa_in6 (List.mem_of_getElem? (i := 23) rfl)
theorem wm_264 : (.code y_G_collections prog_1_method_14_code 1 (some .int) : Cond) ∈ wa_all := wa_in6 (List.mem_of_getElem? (i := 24) rfl)
theorem wm_265 : (.methodLink R_L 38 y_L_allocate : Cond) ∈ wa_all := wa_in6 (List.mem_of_getElem? (i := 25) rfl)
theorem wm_266 : (.static y_L_allocate : Cond) ∈ wa_all := wa_in6 (List.mem_of_getElem? (i := 26) rfl)
theorem wm_267 : (.codeWith y_L_allocate method_3_code 5 (some .int) [(0, 10, 13, 13), (0, 10, 17, 15)] : Cond) ∈ wa_all := wa_in6 (List.mem_of_getElem? (i := 27) rfl)
theorem wm_268 : (.classLink R_L 13 "java/lang/IllegalArgumentException" : Cond) ∈ wa_all := wa_in6 (List.mem_of_getElem? (i := 28) rfl)
theorem wm_269 : (.classLink R_L 15 "java/lang/IllegalStateException" : Cond) ∈ wa_all := wa_in6 (List.mem_of_getElem? (i := 29) rfl)
theorem wm_270 : (.methodLink R_L 7 y_G_allocate : Cond) ∈ wa_all := wa_in6 (List.mem_of_getElem? (i := 30) rfl)
theorem wm_271 : (.instanceMethod y_G_allocate : Cond) ∈ wa_all := wa_in6 (List.mem_of_getElem? (i := 31) rfl)
theorem wm_272 : (.selects R_G y_G_allocate y_G_allocate : Cond) ∈ wa_all := wa_in6 (List.mem_of_getElem? (i := 32) rfl)
theorem wm_273 : (.code y_G_allocate prog_1_method_2_code 4 (some .int) : Cond) ∈ wa_all := wa_in6 (List.mem_of_getElem? (i := 33) rfl)
theorem wm_274 : (.classLink R_G 54 "java/lang/IllegalArgumentException" : Cond) ∈ wa_all := wa_in6 (List.mem_of_getElem? (i := 34) rfl)
theorem wm_275 : (.stringRef R_G 56 "n is not 1 .. 128" : Cond) ∈ wa_all := wa_in6 (List.mem_of_getElem? (i := 35) rfl)
theorem wm_276 : (.methodLink R_G 58 ⟨"java/lang/IllegalArgumentException", "<init>", "(Ljava/lang/String;)V"⟩ : Cond) ∈ wa_all := wa_in6 (List.mem_of_getElem? (i := 36) rfl)
theorem wm_277 : (.methodLink R_G 61 y_G_findRoom : Cond) ∈ wa_all := wa_in6 (List.mem_of_getElem? (i := 37) rfl)
theorem wm_278 : (.privateMethod y_G_findRoom : Cond) ∈ wa_all := wa_in6 (List.mem_of_getElem? (i := 38) rfl)
theorem wm_279 : (.instanceMethod y_G_findRoom : Cond) ∈ wa_all := wa_in6 (List.mem_of_getElem? (i := 39) rfl)
theorem wm_280 : (.code y_G_findRoom prog_1_method_24_code 4 (some .int) : Cond) ∈ wa_all := wa_in7 (List.mem_of_getElem? (i := 0) rfl)
theorem wm_281 : (.methodLink R_G 82 y_G_blocksFor : Cond) ∈ wa_all := wa_in7 (List.mem_of_getElem? (i := 1) rfl)
theorem wm_282 : (.static y_G_blocksFor : Cond) ∈ wa_all := wa_in7 (List.mem_of_getElem? (i := 2) rfl)
theorem wm_283 : (.code y_G_blocksFor prog_1_method_23_code 1 (some .int) : Cond) ∈ wa_all := wa_in7 (List.mem_of_getElem? (i := 3) rfl)
theorem wm_284 : (.methodLink R_G 120 y_G_findBlocks : Cond) ∈ wa_all := wa_in7 (List.mem_of_getElem? (i := 4) rfl)
theorem wm_285 : (.privateMethod y_G_findBlocks : Cond) ∈ wa_all := wa_in7 (List.mem_of_getElem? (i := 5) rfl)
theorem wm_286 : (.instanceMethod y_G_findBlocks : Cond) ∈ wa_all := wa_in7 (List.mem_of_getElem? (i := 6) rfl)
theorem wm_287 : (.code y_G_findBlocks prog_1_method_26_code 6 (some .int) : Cond) ∈ wa_all := wa_in7 (List.mem_of_getElem? (i := 7) rfl)
theorem wm_288 : (.methodLink R_G 74 y_G_slotSize : Cond) ∈ wa_all := wa_in7 (List.mem_of_getElem? (i := 8) rfl)
theorem wm_289 : (.static y_G_slotSize : Cond) ∈ wa_all := wa_in7 (List.mem_of_getElem? (i := 9) rfl)
theorem wm_290 : (.code y_G_slotSize prog_1_method_22_code 2 (some .int) : Cond) ∈ wa_all := wa_in7 (List.mem_of_getElem? (i := 10) rfl)
theorem wm_291 : (.methodLink R_G 123 y_G_findEmptySlot : Cond) ∈ wa_all := wa_in7 (List.mem_of_getElem? (i := 11) rfl)
theorem wm_292 : (.privateMethod y_G_findEmptySlot : Cond) ∈ wa_all := wa_in7 (List.mem_of_getElem? (i := 12) rfl)
theorem wm_293 : (.instanceMethod y_G_findEmptySlot : Cond) ∈ wa_all := wa_in7 (List.mem_of_getElem? (i := 13) rfl)
theorem wm_294 : (.code y_G_findEmptySlot prog_1_method_25_code 3 (some .int) : Cond) ∈ wa_all := wa_in7 (List.mem_of_getElem? (i := 14) rfl)
theorem wm_295 : (.classLink R_G 69 "java/lang/IllegalStateException" : Cond) ∈ wa_all := wa_in7 (List.mem_of_getElem? (i := 15) rfl)
theorem wm_296 : (.instantiable "java/lang/IllegalStateException" 6 : Cond) ∈ wa_all := wa_in7 (List.mem_of_getElem? (i := 16) rfl)
theorem wm_297 : (.castable "java/lang/IllegalStateException" "java/lang/IllegalStateException" : Cond) ∈ wa_all := wa_in7 (List.mem_of_getElem? (i := 17) rfl)
theorem wm_298 : (.selects "java/lang/IllegalStateException" ⟨"java/lang/Throwable", "fillInStackTrace", "(I)Ljava/lang/Throwable;"⟩ ⟨"java/lang/Throwable", "fillInStackTrace", "(I)Ljava/lang/Throwable;"⟩ : Cond) ∈ wa_all := wa_in7 (List.mem_of_getElem? (i := 18) rfl)
theorem wm_299 : (.lays "java/lang/IllegalStateException" "java/lang/Throwable" "cause" "Ljava/lang/Throwable;" : Cond) ∈ wa_all := wa_in7 (List.mem_of_getElem? (i := 19) rfl)
theorem wm_300 : (.lays "java/lang/IllegalStateException" "java/lang/Throwable" "stackTrace" "[Ljava/lang/StackTraceElement;" : Cond) ∈ wa_all := wa_in7 (List.mem_of_getElem? (i := 20) rfl)
theorem wm_301 : (.lays "java/lang/IllegalStateException" "java/lang/Throwable" "suppressedExceptions" "Ljava/util/List;" : Cond) ∈ wa_all := wa_in7 (List.mem_of_getElem? (i := 21) rfl)
theorem wm_302 : (.lays "java/lang/IllegalStateException" "java/lang/Throwable" "detailMessage" "Ljava/lang/String;" : Cond) ∈ wa_all := wa_in7 (List.mem_of_getElem? (i := 22) rfl)
theorem wm_303 : (.lays "java/lang/IllegalStateException" "java/lang/Throwable" "backtrace" "Ljava/lang/Object;" : Cond) ∈ wa_all := wa_in7 (List.mem_of_getElem? (i := 23) rfl)
theorem wm_304 : (.stringRef R_G 71 "there is no room" : Cond) ∈ wa_all := wa_in7 (List.mem_of_getElem? (i := 24) rfl)
theorem wm_305 : (.methodLink R_G 73 ⟨"java/lang/IllegalStateException", "<init>", "(Ljava/lang/String;)V"⟩ : Cond) ∈ wa_all := wa_in7 (List.mem_of_getElem? (i := 25) rfl)
theorem wm_306 : (.instanceMethod ⟨"java/lang/IllegalStateException", "<init>", "(Ljava/lang/String;)V"⟩ : Cond) ∈ wa_all := wa_in7 (List.mem_of_getElem? (i := 26) rfl)
theorem wm_307 : (.code ⟨"java/lang/IllegalStateException", "<init>", "(Ljava/lang/String;)V"⟩ prog_9_method_2_code 2 none : Cond) ∈ wa_all := wa_in7 (List.mem_of_getElem? (i := 27) rfl)
theorem wm_308 : (.methodLink "java/lang/IllegalStateException" 7 ⟨"java/lang/RuntimeException", "<init>", "(Ljava/lang/String;)V"⟩ : Cond) ∈ wa_all := wa_in7 (List.mem_of_getElem? (i := 28) rfl)
theorem wm_309 : (.lays "java/lang/IllegalStateException" "java/lang/Throwable" "depth" "I" : Cond) ∈ wa_all := wa_in7 (List.mem_of_getElem? (i := 29) rfl)
theorem wm_310 : (.superclass "java/lang/IllegalStateException" "java/lang/RuntimeException" : Cond) ∈ wa_all := wa_in7 (List.mem_of_getElem? (i := 30) rfl)
theorem wm_311 : (.methodLink R_G 78 y_G_placeSmall : Cond) ∈ wa_all := wa_in7 (List.mem_of_getElem? (i := 31) rfl)
theorem wm_312 : (.privateMethod y_G_placeSmall : Cond) ∈ wa_all := wa_in7 (List.mem_of_getElem? (i := 32) rfl)
theorem wm_313 : (.instanceMethod y_G_placeSmall : Cond) ∈ wa_all := wa_in7 (List.mem_of_getElem? (i := 33) rfl)
theorem wm_314 : (.code y_G_placeSmall prog_1_method_27_code 4 none : Cond) ∈ wa_all := wa_in7 (List.mem_of_getElem? (i := 34) rfl)
theorem wm_315 : (.methodLink R_G 126 y_G_takeBlock : Cond) ∈ wa_all := wa_in7 (List.mem_of_getElem? (i := 35) rfl)
theorem wm_316 : (.privateMethod y_G_takeBlock : Cond) ∈ wa_all := wa_in7 (List.mem_of_getElem? (i := 36) rfl)
theorem wm_317 : (.instanceMethod y_G_takeBlock : Cond) ∈ wa_all := wa_in7 (List.mem_of_getElem? (i := 37) rfl)
theorem wm_318 : (.code y_G_takeBlock prog_1_method_29_code 3 none : Cond) ∈ wa_all := wa_in7 (List.mem_of_getElem? (i := 38) rfl)
theorem wm_319 : (.methodLink R_G 130 y_G_placeObject : Cond) ∈ wa_all := wa_in7 (List.mem_of_getElem? (i := 39) rfl)
theorem wm_320 : (.privateMethod y_G_placeObject : Cond) ∈ wa_all := wa_in8 (List.mem_of_getElem? (i := 0) rfl)
theorem wm_321 : (.instanceMethod y_G_placeObject : Cond) ∈ wa_all := wa_in8 (List.mem_of_getElem? (i := 1) rfl)
theorem wm_322 : (.code y_G_placeObject prog_1_method_30_code 4 none : Cond) ∈ wa_all := wa_in8 (List.mem_of_getElem? (i := 2) rfl)
theorem wm_323 : (.methodLink R_G 85 y_G_placeLarge : Cond) ∈ wa_all := wa_in8 (List.mem_of_getElem? (i := 3) rfl)
theorem wm_324 : (.privateMethod y_G_placeLarge : Cond) ∈ wa_all := wa_in8 (List.mem_of_getElem? (i := 4) rfl)
theorem wm_325 : (.instanceMethod y_G_placeLarge : Cond) ∈ wa_all := wa_in8 (List.mem_of_getElem? (i := 5) rfl)
theorem wm_326 : (.code y_G_placeLarge prog_1_method_28_code 6 none : Cond) ∈ wa_all := wa_in8 (List.mem_of_getElem? (i := 6) rfl)
theorem wm_327 : (.methodLink R_L 48 y_L_root : Cond) ∈ wa_all := wa_in8 (List.mem_of_getElem? (i := 7) rfl)
theorem wm_328 : (.static y_L_root : Cond) ∈ wa_all := wa_in8 (List.mem_of_getElem? (i := 8) rfl)
theorem wm_329 : (.codeWith y_L_root method_4_code 4 (some .int) [(0, 6, 9, 21)] : Cond) ∈ wa_all := wa_in8 (List.mem_of_getElem? (i := 9) rfl)
theorem wm_330 : (.classLink R_L 21 "java/lang/IndexOutOfBoundsException" : Cond) ∈ wa_all := wa_in8 (List.mem_of_getElem? (i := 10) rfl)
theorem wm_331 : (.methodLink R_L 17 y_G_root : Cond) ∈ wa_all := wa_in8 (List.mem_of_getElem? (i := 11) rfl)
theorem wm_332 : (.instanceMethod y_G_root : Cond) ∈ wa_all := wa_in8 (List.mem_of_getElem? (i := 12) rfl)
theorem wm_333 : (.selects R_G y_G_root y_G_root : Cond) ∈ wa_all := wa_in8 (List.mem_of_getElem? (i := 13) rfl)
theorem wm_334 : (.code y_G_root prog_1_method_3_code 3 none : Cond) ∈ wa_all := wa_in8 (List.mem_of_getElem? (i := 14) rfl)
theorem wm_335 : (.methodLink R_G 88 y_G_checkRoot : Cond) ∈ wa_all := wa_in8 (List.mem_of_getElem? (i := 15) rfl)
theorem wm_336 : (.static y_G_checkRoot : Cond) ∈ wa_all := wa_in8 (List.mem_of_getElem? (i := 16) rfl)
theorem wm_337 : (.code y_G_checkRoot prog_1_method_17_code 1 none : Cond) ∈ wa_all := wa_in8 (List.mem_of_getElem? (i := 17) rfl)
theorem wm_338 : (.classLink R_G 108 "java/lang/IndexOutOfBoundsException" : Cond) ∈ wa_all := wa_in8 (List.mem_of_getElem? (i := 18) rfl)
theorem wm_339 : (.instantiable "java/lang/IndexOutOfBoundsException" 6 : Cond) ∈ wa_all := wa_in8 (List.mem_of_getElem? (i := 19) rfl)
theorem wm_340 : (.castable "java/lang/IndexOutOfBoundsException" "java/lang/IndexOutOfBoundsException" : Cond) ∈ wa_all := wa_in8 (List.mem_of_getElem? (i := 20) rfl)
theorem wm_341 : (.selects "java/lang/IndexOutOfBoundsException" ⟨"java/lang/Throwable", "fillInStackTrace", "(I)Ljava/lang/Throwable;"⟩ ⟨"java/lang/Throwable", "fillInStackTrace", "(I)Ljava/lang/Throwable;"⟩ : Cond) ∈ wa_all := wa_in8 (List.mem_of_getElem? (i := 21) rfl)
theorem wm_342 : (.lays "java/lang/IndexOutOfBoundsException" "java/lang/Throwable" "cause" "Ljava/lang/Throwable;" : Cond) ∈ wa_all := wa_in8 (List.mem_of_getElem? (i := 22) rfl)
theorem wm_343 : (.lays "java/lang/IndexOutOfBoundsException" "java/lang/Throwable" "stackTrace" "[Ljava/lang/StackTraceElement;" : Cond) ∈ wa_all := wa_in8 (List.mem_of_getElem? (i := 23) rfl)
theorem wm_344 : (.lays "java/lang/IndexOutOfBoundsException" "java/lang/Throwable" "suppressedExceptions" "Ljava/util/List;" : Cond) ∈ wa_all := wa_in8 (List.mem_of_getElem? (i := 24) rfl)
theorem wm_345 : (.lays "java/lang/IndexOutOfBoundsException" "java/lang/Throwable" "detailMessage" "Ljava/lang/String;" : Cond) ∈ wa_all := wa_in8 (List.mem_of_getElem? (i := 25) rfl)
theorem wm_346 : (.lays "java/lang/IndexOutOfBoundsException" "java/lang/Throwable" "backtrace" "Ljava/lang/Object;" : Cond) ∈ wa_all := wa_in8 (List.mem_of_getElem? (i := 26) rfl)
theorem wm_347 : (.stringRef R_G 110 "there is no such root" : Cond) ∈ wa_all := wa_in8 (List.mem_of_getElem? (i := 27) rfl)
theorem wm_348 : (.methodLink R_G 112 ⟨"java/lang/IndexOutOfBoundsException", "<init>", "(Ljava/lang/String;)V"⟩ : Cond) ∈ wa_all := wa_in8 (List.mem_of_getElem? (i := 28) rfl)
theorem wm_349 : (.lays "java/lang/IndexOutOfBoundsException" "java/lang/Throwable" "depth" "I" : Cond) ∈ wa_all := wa_in8 (List.mem_of_getElem? (i := 29) rfl)
theorem wm_350 : (.superclass "java/lang/IndexOutOfBoundsException" "java/lang/RuntimeException" : Cond) ∈ wa_all := wa_in8 (List.mem_of_getElem? (i := 30) rfl)
theorem wm_351 : (.methodLink R_L 52 y_L_rooted : Cond) ∈ wa_all := wa_in8 (List.mem_of_getElem? (i := 31) rfl)
theorem wm_352 : (.static y_L_rooted : Cond) ∈ wa_all := wa_in8 (List.mem_of_getElem? (i := 32) rfl)
theorem wm_353 : (.codeWith y_L_rooted method_5_code 4 (some .int) [(0, 9, 12, 21)] : Cond) ∈ wa_all := wa_in8 (List.mem_of_getElem? (i := 33) rfl)
theorem wm_354 : (.methodLink R_L 23 y_G_rooted : Cond) ∈ wa_all := wa_in8 (List.mem_of_getElem? (i := 34) rfl)
theorem wm_355 : (.instanceMethod y_G_rooted : Cond) ∈ wa_all := wa_in8 (List.mem_of_getElem? (i := 35) rfl)
theorem wm_356 : (.selects R_G y_G_rooted y_G_rooted : Cond) ∈ wa_all := wa_in8 (List.mem_of_getElem? (i := 36) rfl)
theorem wm_357 : (.code y_G_rooted prog_1_method_4_code 2 (some .int) : Cond) ∈ wa_all := wa_in8 (List.mem_of_getElem? (i := 37) rfl)
theorem wm_358 : (.methodLink R_L 56 y_L_read : Cond) ∈ wa_all := wa_in8 (List.mem_of_getElem? (i := 38) rfl)
theorem wm_359 : (.static y_L_read : Cond) ∈ wa_all := wa_in8 (List.mem_of_getElem? (i := 39) rfl)
theorem wm_360 : (.codeWith y_L_read method_6_code 4 (some .int) [(0, 9, 12, 21), (0, 9, 15, 15)] : Cond) ∈ wa_all := wa_in9 (List.mem_of_getElem? (i := 0) rfl)
theorem wm_361 : (.methodLink R_L 27 y_G_read : Cond) ∈ wa_all := wa_in9 (List.mem_of_getElem? (i := 1) rfl)
theorem wm_362 : (.instanceMethod y_G_read : Cond) ∈ wa_all := wa_in9 (List.mem_of_getElem? (i := 2) rfl)
theorem wm_363 : (.selects R_G y_G_read y_G_read : Cond) ∈ wa_all := wa_in9 (List.mem_of_getElem? (i := 3) rfl)
theorem wm_364 : (.code y_G_read prog_1_method_5_code 2 (some .int) : Cond) ∈ wa_all := wa_in9 (List.mem_of_getElem? (i := 4) rfl)
theorem wm_365 : (.methodLink R_G 92 y_G_checkInObject : Cond) ∈ wa_all := wa_in9 (List.mem_of_getElem? (i := 5) rfl)
theorem wm_366 : (.privateMethod y_G_checkInObject : Cond) ∈ wa_all := wa_in9 (List.mem_of_getElem? (i := 6) rfl)
theorem wm_367 : (.instanceMethod y_G_checkInObject : Cond) ∈ wa_all := wa_in9 (List.mem_of_getElem? (i := 7) rfl)
theorem wm_368 : (.code y_G_checkInObject prog_1_method_18_code 2 none : Cond) ∈ wa_all := wa_in9 (List.mem_of_getElem? (i := 8) rfl)
theorem wm_369 : (.stringRef R_G 116 "this is no address of the heap" : Cond) ∈ wa_all := wa_in9 (List.mem_of_getElem? (i := 9) rfl)
theorem wm_370 : (.stringRef R_G 118 "this word is in no object" : Cond) ∈ wa_all := wa_in9 (List.mem_of_getElem? (i := 10) rfl)
theorem wm_371 : (.methodLink R_L 59 y_L_write : Cond) ∈ wa_all := wa_in9 (List.mem_of_getElem? (i := 11) rfl)
theorem wm_372 : (.static y_L_write : Cond) ∈ wa_all := wa_in9 (List.mem_of_getElem? (i := 12) rfl)
theorem wm_373 : (.codeWith y_L_write method_7_code 5 (some .int) [(0, 10, 13, 21), (0, 10, 17, 15)] : Cond) ∈ wa_all := wa_in9 (List.mem_of_getElem? (i := 13) rfl)
theorem wm_374 : (.methodLink R_L 30 y_G_write : Cond) ∈ wa_all := wa_in9 (List.mem_of_getElem? (i := 14) rfl)
theorem wm_375 : (.instanceMethod y_G_write : Cond) ∈ wa_all := wa_in9 (List.mem_of_getElem? (i := 15) rfl)
theorem wm_376 : (.selects R_G y_G_write y_G_write : Cond) ∈ wa_all := wa_in9 (List.mem_of_getElem? (i := 16) rfl)
theorem wm_377 : (.code y_G_write prog_1_method_6_code 4 (some .int) : Cond) ∈ wa_all := wa_in9 (List.mem_of_getElem? (i := 17) rfl)
theorem wm_378 : (.classLink R_L 35 R_M : Cond) ∈ wa_all := wa_in9 (List.mem_of_getElem? (i := 18) rfl)
theorem wm_379 : (.instantiable R_M 11 : Cond) ∈ wa_all := wa_in9 (List.mem_of_getElem? (i := 19) rfl)
theorem wm_380 : (.methodLink R_L 37 y_M_init : Cond) ∈ wa_all := wa_in9 (List.mem_of_getElem? (i := 20) rfl)
theorem wm_381 : (.instanceMethod y_M_init : Cond) ∈ wa_all := wa_in9 (List.mem_of_getElem? (i := 21) rfl)
theorem wm_382 : (.code y_M_init prog_3_method_1_code 1 none : Cond) ∈ wa_all := wa_in9 (List.mem_of_getElem? (i := 22) rfl)
theorem wm_383 : (.methodLink R_M 1 objectInit : Cond) ∈ wa_all := wa_in9 (List.mem_of_getElem? (i := 23) rfl)
theorem wm_384 : (.fieldLink R_M 35 R_M "thrown" "I" : Cond) ∈ wa_all := wa_in9 (List.mem_of_getElem? (i := 24) rfl)
theorem wm_385 : (.fieldLink R_M 7 R_M "roots" "[I" : Cond) ∈ wa_all := wa_in9 (List.mem_of_getElem? (i := 25) rfl)
theorem wm_386 : (.fieldLink R_M 13 R_M "word" "[I" : Cond) ∈ wa_all := wa_in9 (List.mem_of_getElem? (i := 26) rfl)
theorem wm_387 : (.fieldLink R_M 16 R_M "of" "[I" : Cond) ∈ wa_all := wa_in9 (List.mem_of_getElem? (i := 27) rfl)
theorem wm_388 : (.fieldLink R_M 19 R_M "many" "[I" : Cond) ∈ wa_all := wa_in9 (List.mem_of_getElem? (i := 28) rfl)
theorem wm_389 : (.fieldLink R_M 22 R_M "quiet" "[Z" : Cond) ∈ wa_all := wa_in9 (List.mem_of_getElem? (i := 29) rfl)
theorem wm_390 : (.fieldLink R_M 26 R_M "marked" "[Z" : Cond) ∈ wa_all := wa_in9 (List.mem_of_getElem? (i := 30) rfl)
theorem wm_391 : (.fieldLink R_M 29 R_M "kind" "[I" : Cond) ∈ wa_all := wa_in9 (List.mem_of_getElem? (i := 31) rfl)
theorem wm_392 : (.fieldLink R_M 32 R_M "doubtful" "[Z" : Cond) ∈ wa_all := wa_in9 (List.mem_of_getElem? (i := 32) rfl)
theorem wm_393 : (.fieldLink R_M 53 R_M "collected" "I" : Cond) ∈ wa_all := wa_in9 (List.mem_of_getElem? (i := 33) rfl)
theorem wm_394 : (.fieldLink R_M 50 R_M "given" "I" : Cond) ∈ wa_all := wa_in9 (List.mem_of_getElem? (i := 34) rfl)
theorem wm_395 : (.lays R_M R_M "thrown" "I" : Cond) ∈ wa_all := wa_in9 (List.mem_of_getElem? (i := 35) rfl)
theorem wm_396 : (.soleField R_M "thrown" : Cond) ∈ wa_all := wa_in9 (List.mem_of_getElem? (i := 36) rfl)
theorem wm_397 : (.lays R_M R_M "roots" "[I" : Cond) ∈ wa_all := wa_in9 (List.mem_of_getElem? (i := 37) rfl)
theorem wm_398 : (.soleField R_M "roots" : Cond) ∈ wa_all := wa_in9 (List.mem_of_getElem? (i := 38) rfl)
theorem wm_399 : (.lays R_M R_M "word" "[I" : Cond) ∈ wa_all := wa_in9 (List.mem_of_getElem? (i := 39) rfl)
theorem wm_400 : (.soleField R_M "word" : Cond) ∈ wa_all := wa_in10 (List.mem_of_getElem? (i := 0) rfl)
theorem wm_401 : (.lays R_M R_M "of" "[I" : Cond) ∈ wa_all := wa_in10 (List.mem_of_getElem? (i := 1) rfl)
theorem wm_402 : (.soleField R_M "of" : Cond) ∈ wa_all := wa_in10 (List.mem_of_getElem? (i := 2) rfl)
theorem wm_403 : (.lays R_M R_M "many" "[I" : Cond) ∈ wa_all := wa_in10 (List.mem_of_getElem? (i := 3) rfl)
theorem wm_404 : (.soleField R_M "many" : Cond) ∈ wa_all := wa_in10 (List.mem_of_getElem? (i := 4) rfl)
theorem wm_405 : (.lays R_M R_M "quiet" "[Z" : Cond) ∈ wa_all := wa_in10 (List.mem_of_getElem? (i := 5) rfl)
theorem wm_406 : (.soleField R_M "quiet" : Cond) ∈ wa_all := wa_in10 (List.mem_of_getElem? (i := 6) rfl)
theorem wm_407 : (.lays R_M R_M "marked" "[Z" : Cond) ∈ wa_all := wa_in10 (List.mem_of_getElem? (i := 7) rfl)
theorem wm_408 : (.soleField R_M "marked" : Cond) ∈ wa_all := wa_in10 (List.mem_of_getElem? (i := 8) rfl)
theorem wm_409 : (.lays R_M R_M "kind" "[I" : Cond) ∈ wa_all := wa_in10 (List.mem_of_getElem? (i := 9) rfl)
theorem wm_410 : (.soleField R_M "kind" : Cond) ∈ wa_all := wa_in10 (List.mem_of_getElem? (i := 10) rfl)
theorem wm_411 : (.lays R_M R_M "doubtful" "[Z" : Cond) ∈ wa_all := wa_in10 (List.mem_of_getElem? (i := 11) rfl)
theorem wm_412 : (.soleField R_M "doubtful" : Cond) ∈ wa_all := wa_in10 (List.mem_of_getElem? (i := 12) rfl)
theorem wm_413 : (.lays R_M R_M "collected" "I" : Cond) ∈ wa_all := wa_in10 (List.mem_of_getElem? (i := 13) rfl)
theorem wm_414 : (.soleField R_M "collected" : Cond) ∈ wa_all := wa_in10 (List.mem_of_getElem? (i := 14) rfl)
theorem wm_415 : (.lays R_M R_M "given" "I" : Cond) ∈ wa_all := wa_in10 (List.mem_of_getElem? (i := 15) rfl)
theorem wm_416 : (.soleField R_M "given" : Cond) ∈ wa_all := wa_in10 (List.mem_of_getElem? (i := 16) rfl)
theorem wm_417 : (.superclass R_M "java/lang/Object" : Cond) ∈ wa_all := wa_in10 (List.mem_of_getElem? (i := 17) rfl)
theorem wm_418 : (.methodLink R_L 44 y_M_thrown : Cond) ∈ wa_all := wa_in10 (List.mem_of_getElem? (i := 18) rfl)
theorem wm_419 : (.instanceMethod y_M_thrown : Cond) ∈ wa_all := wa_in10 (List.mem_of_getElem? (i := 19) rfl)
theorem wm_420 : (.selects R_M y_M_thrown y_M_thrown : Cond) ∈ wa_all := wa_in10 (List.mem_of_getElem? (i := 20) rfl)
theorem wm_421 : (.code y_M_thrown prog_3_method_2_code 1 (some .int) : Cond) ∈ wa_all := wa_in10 (List.mem_of_getElem? (i := 21) rfl)
theorem wm_422 : (.methodLink R_L 43 y_M_allocate : Cond) ∈ wa_all := wa_in10 (List.mem_of_getElem? (i := 22) rfl)
theorem wm_423 : (.instanceMethod y_M_allocate : Cond) ∈ wa_all := wa_in10 (List.mem_of_getElem? (i := 23) rfl)
theorem wm_424 : (.selects R_M y_M_allocate y_M_allocate : Cond) ∈ wa_all := wa_in10 (List.mem_of_getElem? (i := 24) rfl)
theorem wm_425 : (.code y_M_allocate prog_3_method_16_code 4 (some .int) : Cond) ∈ wa_all := wa_in10 (List.mem_of_getElem? (i := 25) rfl)
theorem wm_426 : (.methodLink R_M 81 y_M_room : Cond) ∈ wa_all := wa_in10 (List.mem_of_getElem? (i := 26) rfl)
theorem wm_427 : (.privateMethod y_M_room : Cond) ∈ wa_all := wa_in10 (List.mem_of_getElem? (i := 27) rfl)
theorem wm_428 : (.instanceMethod y_M_room : Cond) ∈ wa_all := wa_in10 (List.mem_of_getElem? (i := 28) rfl)
theorem wm_429 : (.code y_M_room prog_3_method_14_code 3 (some .int) : Cond) ∈ wa_all := wa_in10 (List.mem_of_getElem? (i := 29) rfl)
theorem wm_430 : (.methodLink R_M 71 y_M_sizeFor : Cond) ∈ wa_all := wa_in10 (List.mem_of_getElem? (i := 30) rfl)
theorem wm_431 : (.static y_M_sizeFor : Cond) ∈ wa_all := wa_in10 (List.mem_of_getElem? (i := 31) rfl)
theorem wm_432 : (.code y_M_sizeFor prog_3_method_11_code 1 (some .int) : Cond) ∈ wa_all := wa_in10 (List.mem_of_getElem? (i := 32) rfl)
theorem wm_433 : (.methodLink R_M 74 y_M_smallRoom : Cond) ∈ wa_all := wa_in10 (List.mem_of_getElem? (i := 33) rfl)
theorem wm_434 : (.privateMethod y_M_smallRoom : Cond) ∈ wa_all := wa_in10 (List.mem_of_getElem? (i := 34) rfl)
theorem wm_435 : (.instanceMethod y_M_smallRoom : Cond) ∈ wa_all := wa_in10 (List.mem_of_getElem? (i := 35) rfl)
theorem wm_436 : (.code y_M_smallRoom prog_3_method_12_code 4 (some .int) : Cond) ∈ wa_all := wa_in10 (List.mem_of_getElem? (i := 36) rfl)
theorem wm_437 : (.methodLink R_M 67 y_M_isOpen : Cond) ∈ wa_all := wa_in10 (List.mem_of_getElem? (i := 37) rfl)
theorem wm_438 : (.privateMethod y_M_isOpen : Cond) ∈ wa_all := wa_in10 (List.mem_of_getElem? (i := 38) rfl)
theorem wm_439 : (.instanceMethod y_M_isOpen : Cond) ∈ wa_all := wa_in10 (List.mem_of_getElem? (i := 39) rfl)
theorem wm_440 : (.code y_M_isOpen prog_3_method_10_code 3 (some .boolean) : Cond) ∈ wa_all := wa_in11 (List.mem_of_getElem? (i := 0) rfl)
theorem wm_441 : (.methodLink R_M 78 y_M_largeRoom : Cond) ∈ wa_all := wa_in11 (List.mem_of_getElem? (i := 1) rfl)
theorem wm_442 : (.privateMethod y_M_largeRoom : Cond) ∈ wa_all := wa_in11 (List.mem_of_getElem? (i := 2) rfl)
theorem wm_443 : (.instanceMethod y_M_largeRoom : Cond) ∈ wa_all := wa_in11 (List.mem_of_getElem? (i := 3) rfl)
theorem wm_444 : (.code y_M_largeRoom prog_3_method_13_code 6 (some .int) : Cond) ∈ wa_all := wa_in11 (List.mem_of_getElem? (i := 4) rfl)
theorem wm_445 : (.methodLink R_M 84 y_M_gather : Cond) ∈ wa_all := wa_in11 (List.mem_of_getElem? (i := 5) rfl)
theorem wm_446 : (.privateMethod y_M_gather : Cond) ∈ wa_all := wa_in11 (List.mem_of_getElem? (i := 6) rfl)
theorem wm_447 : (.instanceMethod y_M_gather : Cond) ∈ wa_all := wa_in11 (List.mem_of_getElem? (i := 7) rfl)
theorem wm_448 : (.code y_M_gather prog_3_method_9_code 3 none : Cond) ∈ wa_all := wa_in11 (List.mem_of_getElem? (i := 8) rfl)
theorem wm_449 : (.methodLink R_M 56 y_M_lookAtAll : Cond) ∈ wa_all := wa_in11 (List.mem_of_getElem? (i := 9) rfl)
theorem wm_450 : (.privateMethod y_M_lookAtAll : Cond) ∈ wa_all := wa_in11 (List.mem_of_getElem? (i := 10) rfl)
theorem wm_451 : (.instanceMethod y_M_lookAtAll : Cond) ∈ wa_all := wa_in11 (List.mem_of_getElem? (i := 11) rfl)
theorem wm_452 : (.code y_M_lookAtAll prog_3_method_6_code 5 (some .boolean) : Cond) ∈ wa_all := wa_in11 (List.mem_of_getElem? (i := 12) rfl)
theorem wm_453 : (.methodLink R_M 47 y_M_look : Cond) ∈ wa_all := wa_in11 (List.mem_of_getElem? (i := 13) rfl)
theorem wm_454 : (.privateMethod y_M_look : Cond) ∈ wa_all := wa_in11 (List.mem_of_getElem? (i := 14) rfl)
theorem wm_455 : (.instanceMethod y_M_look : Cond) ∈ wa_all := wa_in11 (List.mem_of_getElem? (i := 15) rfl)
theorem wm_456 : (.code y_M_look prog_3_method_5_code 4 (some .boolean) : Cond) ∈ wa_all := wa_in11 (List.mem_of_getElem? (i := 16) rfl)
theorem wm_457 : (.methodLink R_M 39 y_M_isAddress : Cond) ∈ wa_all := wa_in11 (List.mem_of_getElem? (i := 17) rfl)
theorem wm_458 : (.static y_M_isAddress : Cond) ∈ wa_all := wa_in11 (List.mem_of_getElem? (i := 18) rfl)
theorem wm_459 : (.code y_M_isAddress prog_3_method_3_code 1 (some .boolean) : Cond) ∈ wa_all := wa_in11 (List.mem_of_getElem? (i := 19) rfl)
theorem wm_460 : (.methodLink R_M 43 y_M_objectAt : Cond) ∈ wa_all := wa_in11 (List.mem_of_getElem? (i := 20) rfl)
theorem wm_461 : (.privateMethod y_M_objectAt : Cond) ∈ wa_all := wa_in11 (List.mem_of_getElem? (i := 21) rfl)
theorem wm_462 : (.instanceMethod y_M_objectAt : Cond) ∈ wa_all := wa_in11 (List.mem_of_getElem? (i := 22) rfl)
theorem wm_463 : (.code y_M_objectAt prog_3_method_4_code 2 (some .int) : Cond) ∈ wa_all := wa_in11 (List.mem_of_getElem? (i := 23) rfl)
theorem wm_464 : (.methodLink R_M 60 y_M_giveUp : Cond) ∈ wa_all := wa_in11 (List.mem_of_getElem? (i := 24) rfl)
theorem wm_465 : (.privateMethod y_M_giveUp : Cond) ∈ wa_all := wa_in11 (List.mem_of_getElem? (i := 25) rfl)
theorem wm_466 : (.instanceMethod y_M_giveUp : Cond) ∈ wa_all := wa_in11 (List.mem_of_getElem? (i := 26) rfl)
theorem wm_467 : (.code y_M_giveUp prog_3_method_7_code 4 none : Cond) ∈ wa_all := wa_in11 (List.mem_of_getElem? (i := 27) rfl)
theorem wm_468 : (.methodLink R_M 64 y_M_isBare : Cond) ∈ wa_all := wa_in11 (List.mem_of_getElem? (i := 28) rfl)
theorem wm_469 : (.privateMethod y_M_isBare : Cond) ∈ wa_all := wa_in11 (List.mem_of_getElem? (i := 29) rfl)
theorem wm_470 : (.instanceMethod y_M_isBare : Cond) ∈ wa_all := wa_in11 (List.mem_of_getElem? (i := 30) rfl)
theorem wm_471 : (.code y_M_isBare prog_3_method_8_code 4 (some .boolean) : Cond) ∈ wa_all := wa_in11 (List.mem_of_getElem? (i := 31) rfl)
theorem wm_472 : (.methodLink R_M 87 y_M_settle : Cond) ∈ wa_all := wa_in11 (List.mem_of_getElem? (i := 32) rfl)
theorem wm_473 : (.privateMethod y_M_settle : Cond) ∈ wa_all := wa_in11 (List.mem_of_getElem? (i := 33) rfl)
theorem wm_474 : (.instanceMethod y_M_settle : Cond) ∈ wa_all := wa_in11 (List.mem_of_getElem? (i := 34) rfl)
theorem wm_475 : (.code y_M_settle prog_3_method_15_code 6 none : Cond) ∈ wa_all := wa_in11 (List.mem_of_getElem? (i := 35) rfl)
theorem wm_476 : (.methodLink R_L 66 y_M_collect : Cond) ∈ wa_all := wa_in11 (List.mem_of_getElem? (i := 36) rfl)
theorem wm_477 : (.instanceMethod y_M_collect : Cond) ∈ wa_all := wa_in11 (List.mem_of_getElem? (i := 37) rfl)
theorem wm_478 : (.selects R_M y_M_collect y_M_collect : Cond) ∈ wa_all := wa_in11 (List.mem_of_getElem? (i := 38) rfl)
theorem wm_479 : (.code y_M_collect prog_3_method_17_code 1 (some .int) : Cond) ∈ wa_all := wa_in11 (List.mem_of_getElem? (i := 39) rfl)
theorem wm_480 : (.methodLink R_L 51 y_M_root : Cond) ∈ wa_all := wa_in12 (List.mem_of_getElem? (i := 0) rfl)
theorem wm_481 : (.instanceMethod y_M_root : Cond) ∈ wa_all := wa_in12 (List.mem_of_getElem? (i := 1) rfl)
theorem wm_482 : (.selects R_M y_M_root y_M_root : Cond) ∈ wa_all := wa_in12 (List.mem_of_getElem? (i := 2) rfl)
theorem wm_483 : (.code y_M_root prog_3_method_18_code 3 none : Cond) ∈ wa_all := wa_in12 (List.mem_of_getElem? (i := 3) rfl)
theorem wm_484 : (.methodLink R_L 55 y_M_rooted : Cond) ∈ wa_all := wa_in12 (List.mem_of_getElem? (i := 4) rfl)
theorem wm_485 : (.instanceMethod y_M_rooted : Cond) ∈ wa_all := wa_in12 (List.mem_of_getElem? (i := 5) rfl)
theorem wm_486 : (.selects R_M y_M_rooted y_M_rooted : Cond) ∈ wa_all := wa_in12 (List.mem_of_getElem? (i := 6) rfl)
theorem wm_487 : (.code y_M_rooted prog_3_method_19_code 2 (some .int) : Cond) ∈ wa_all := wa_in12 (List.mem_of_getElem? (i := 7) rfl)
theorem wm_488 : (.methodLink R_L 58 y_M_read : Cond) ∈ wa_all := wa_in12 (List.mem_of_getElem? (i := 8) rfl)
theorem wm_489 : (.instanceMethod y_M_read : Cond) ∈ wa_all := wa_in12 (List.mem_of_getElem? (i := 9) rfl)
theorem wm_490 : (.selects R_M y_M_read y_M_read : Cond) ∈ wa_all := wa_in12 (List.mem_of_getElem? (i := 10) rfl)
theorem wm_491 : (.code y_M_read prog_3_method_21_code 2 (some .int) : Cond) ∈ wa_all := wa_in12 (List.mem_of_getElem? (i := 11) rfl)
theorem wm_492 : (.methodLink R_M 91 y_M_bar : Cond) ∈ wa_all := wa_in12 (List.mem_of_getElem? (i := 12) rfl)
theorem wm_493 : (.privateMethod y_M_bar : Cond) ∈ wa_all := wa_in12 (List.mem_of_getElem? (i := 13) rfl)
theorem wm_494 : (.instanceMethod y_M_bar : Cond) ∈ wa_all := wa_in12 (List.mem_of_getElem? (i := 14) rfl)
theorem wm_495 : (.code y_M_bar prog_3_method_20_code 2 (some .int) : Cond) ∈ wa_all := wa_in12 (List.mem_of_getElem? (i := 15) rfl)
theorem wm_496 : (.methodLink R_L 62 y_M_write : Cond) ∈ wa_all := wa_in12 (List.mem_of_getElem? (i := 16) rfl)
theorem wm_497 : (.instanceMethod y_M_write : Cond) ∈ wa_all := wa_in12 (List.mem_of_getElem? (i := 17) rfl)
theorem wm_498 : (.selects R_M y_M_write y_M_write : Cond) ∈ wa_all := wa_in12 (List.mem_of_getElem? (i := 18) rfl)
theorem wm_499 : (.code y_M_write prog_3_method_22_code 4 (some .int) : Cond) ∈ wa_all := wa_in12 (List.mem_of_getElem? (i := 19) rfl)
theorem wm_500 : (.methodLink R_L 70 y_M_base : Cond) ∈ wa_all := wa_in12 (List.mem_of_getElem? (i := 20) rfl)
theorem wm_501 : (.instanceMethod y_M_base : Cond) ∈ wa_all := wa_in12 (List.mem_of_getElem? (i := 21) rfl)
theorem wm_502 : (.selects R_M y_M_base y_M_base : Cond) ∈ wa_all := wa_in12 (List.mem_of_getElem? (i := 22) rfl)
theorem wm_503 : (.code y_M_base prog_3_method_23_code 3 (some .int) : Cond) ∈ wa_all := wa_in12 (List.mem_of_getElem? (i := 23) rfl)
theorem wm_504 : (.methodLink R_L 74 y_M_size : Cond) ∈ wa_all := wa_in12 (List.mem_of_getElem? (i := 24) rfl)
theorem wm_505 : (.instanceMethod y_M_size : Cond) ∈ wa_all := wa_in12 (List.mem_of_getElem? (i := 25) rfl)
theorem wm_506 : (.selects R_M y_M_size y_M_size : Cond) ∈ wa_all := wa_in12 (List.mem_of_getElem? (i := 26) rfl)
theorem wm_507 : (.code y_M_size prog_3_method_24_code 3 (some .int) : Cond) ∈ wa_all := wa_in12 (List.mem_of_getElem? (i := 27) rfl)
theorem wm_508 : (.methodLink R_L 79 y_M_silent : Cond) ∈ wa_all := wa_in12 (List.mem_of_getElem? (i := 28) rfl)
theorem wm_509 : (.instanceMethod y_M_silent : Cond) ∈ wa_all := wa_in12 (List.mem_of_getElem? (i := 29) rfl)
theorem wm_510 : (.selects R_M y_M_silent y_M_silent : Cond) ∈ wa_all := wa_in12 (List.mem_of_getElem? (i := 30) rfl)
theorem wm_511 : (.code y_M_silent prog_3_method_25_code 3 (some .boolean) : Cond) ∈ wa_all := wa_in12 (List.mem_of_getElem? (i := 31) rfl)
theorem wm_512 : (.methodLink R_L 83 y_M_block : Cond) ∈ wa_all := wa_in12 (List.mem_of_getElem? (i := 32) rfl)
theorem wm_513 : (.instanceMethod y_M_block : Cond) ∈ wa_all := wa_in12 (List.mem_of_getElem? (i := 33) rfl)
theorem wm_514 : (.selects R_M y_M_block y_M_block : Cond) ∈ wa_all := wa_in12 (List.mem_of_getElem? (i := 34) rfl)
theorem wm_515 : (.code y_M_block prog_3_method_26_code 2 (some .int) : Cond) ∈ wa_all := wa_in12 (List.mem_of_getElem? (i := 35) rfl)
theorem wm_516 : (.methodLink R_L 87 y_M_empty : Cond) ∈ wa_all := wa_in12 (List.mem_of_getElem? (i := 36) rfl)
theorem wm_517 : (.instanceMethod y_M_empty : Cond) ∈ wa_all := wa_in12 (List.mem_of_getElem? (i := 37) rfl)
theorem wm_518 : (.selects R_M y_M_empty y_M_empty : Cond) ∈ wa_all := wa_in12 (List.mem_of_getElem? (i := 38) rfl)
theorem wm_519 : (.code y_M_empty prog_3_method_27_code 4 (some .int) : Cond) ∈ wa_all := wa_in12 (List.mem_of_getElem? (i := 39) rfl)
theorem wm_520 : (.methodLink R_L 91 y_M_objects : Cond) ∈ wa_all := wa_in13 (List.mem_of_getElem? (i := 0) rfl)
theorem wm_521 : (.instanceMethod y_M_objects : Cond) ∈ wa_all := wa_in13 (List.mem_of_getElem? (i := 1) rfl)
theorem wm_522 : (.selects R_M y_M_objects y_M_objects : Cond) ∈ wa_all := wa_in13 (List.mem_of_getElem? (i := 2) rfl)
theorem wm_523 : (.code y_M_objects prog_3_method_28_code 3 (some .int) : Cond) ∈ wa_all := wa_in13 (List.mem_of_getElem? (i := 3) rfl)
theorem wm_524 : (.methodLink R_L 95 y_M_collections : Cond) ∈ wa_all := wa_in13 (List.mem_of_getElem? (i := 4) rfl)
theorem wm_525 : (.instanceMethod y_M_collections : Cond) ∈ wa_all := wa_in13 (List.mem_of_getElem? (i := 5) rfl)
theorem wm_526 : (.selects R_M y_M_collections y_M_collections : Cond) ∈ wa_all := wa_in13 (List.mem_of_getElem? (i := 6) rfl)
theorem wm_527 : (.code y_M_collections prog_3_method_29_code 1 (some .int) : Cond) ∈ wa_all := wa_in13 (List.mem_of_getElem? (i := 7) rfl)
theorem wm_528 : (.arrayClass .long : Cond) ∈ wa_all := wa_in13 (List.mem_of_getElem? (i := 8) rfl)
theorem wm_529 : (.sameMethod "java/lang/Throwable" "java/lang/Throwable" "fillInStackTrace" "(I)Ljava/lang/Throwable;" : Cond) ∈ wa_all := wa_in13 (List.mem_of_getElem? (i := 9) rfl)
end
section
/-! numbers of booleans and of starts; counting, the least of a kind -/
def zb_e (b : Bool) : Int32 := if b = true then 1 else 0
def zs_e (n : Nat) : Int32 := nI n - 1
theorem zb_t : zb_e true = 1 := rfl
theorem zb_f : zb_e false = 0 := rfl
theorem zb_z {b : Bool} (h : zb_e b = 0) : b = false := by
  cases b
  · rfl
  · exact absurd h (by decide)
theorem zb_nz {b : Bool} (h : ¬ zb_e b = 0) : b = true := by
  cases b
  · exact absurd rfl h
  · rfl
theorem zs_0 : zs_e 0 = -1 := by decide +kernel
theorem zs_s (n : Nat) : zs_e (n + 1) = nI n := nI_pred n
theorem zn_m1 {n : Nat} (h : n < 2 ^ 31) : ¬ nI n = -1 := by
  intro q
  have a := nI_toInt h
  rw [q] at a
  have e : (-1 : Int32).toInt = -1 := by decide
  omega
theorem zs_m1 {n : Nat} (h : n < 2 ^ 31) : zs_e n = -1 ↔ n = 0 := by
  cases n with
  | zero => exact ⟨fun _ => rfl, fun _ => zs_0⟩
  | succ k =>
    rw [zs_s]
    exact ⟨fun q => absurd q (zn_m1 (by omega)), fun q => by omega⟩
theorem zs_eq {n k : Nat} (hn : n < 2 ^ 31) (hk : k < 2 ^ 31) : zs_e n = nI k ↔ n = k + 1 := by
  cases n with
  | zero =>
    rw [zs_0]
    exact ⟨fun q => absurd q.symm (zn_m1 hk), fun q => by omega⟩
  | succ j =>
    rw [zs_s, nI_eq (by omega) hk]
    omega
theorem zs_lt {n : Nat} (h : n < 2 ^ 31) : zs_e n < 0 ↔ n = 0 := by
  cases n with
  | zero => exact ⟨fun _ => rfl, fun _ => by rw [zs_0]; decide⟩
  | succ k =>
    rw [zs_s]
    exact ⟨fun q => absurd q (nI_pos (by omega)), fun q => by omega⟩
noncomputable def cl_b (P : Prop) : Bool := @decide P (Classical.propDecidable P)
theorem cl_t {P : Prop} : cl_b P = true ↔ P := by
  unfold cl_b
  exact @decide_eq_true_iff P (Classical.propDecidable P)
theorem cl_f {P : Prop} : cl_b P = false ↔ ¬ P := by
  constructor
  · intro h q
    rw [cl_t.mpr q] at h
    cases h
  · intro h
    cases hb : cl_b P
    · rfl
    · exact absurd (cl_t.mp hb) h
theorem cl_e {P Q : Prop} (h : P ↔ Q) : cl_b P = cl_b Q := by rw [show P = Q from propext h]
theorem cl_ft {b : Bool} (h : ¬ b = true) : b = false := by cases b <;> simp_all
theorem cl_tf {b : Bool} (h : ¬ b = false) : b = true := by cases b <;> simp_all
/-- how many of the first n are P -/
def cn_t (P : Nat → Bool) : Nat → Nat
  | 0 => 0
  | n + 1 => cn_t P n + (if P n = true then 1 else 0)
theorem cn_le (P : Nat → Bool) (n : Nat) : cn_t P n ≤ n := by
  induction n with
  | zero => exact Nat.le_refl _
  | succ n ih =>
    simp only [cn_t]
    split <;> omega
theorem cn_ext {P Q : Nat → Bool} (n : Nat) (h : ∀ i, i < n → P i = Q i) : cn_t P n = cn_t Q n := by
  induction n with
  | zero => rfl
  | succ n ih =>
    simp only [cn_t]
    rw [ih (fun i hi => h i (by omega)), h n (by omega)]
theorem cn_lt {P : Nat → Bool} {k : Nat} (hP : P k = false) (n : Nat) : k < n → cn_t P n < n := by
  induction n with
  | zero => intro h; omega
  | succ n ih =>
    intro h
    simp only [cn_t]
    by_cases hk : k = n
    · subst hk
      have := cn_le P k
      rw [hP]
      simp
      omega
    · have := ih (by omega)
      split <;> omega
theorem cn_set {P Q : Nat → Bool} {k : Nat} (hP : P k = false) (hQ : Q k = true) (n : Nat) : k < n → (∀ i, i < n → i ≠ k → P i = Q i) → cn_t Q n = cn_t P n + 1 := by
  induction n with
  | zero => intro h; omega
  | succ n ih =>
    intro h hx
    simp only [cn_t]
    by_cases hk : k = n
    · subst hk
      rw [cn_ext k (fun i hi => (hx i (by omega) (by omega)).symm), hP, hQ]
      simp
    · rw [ih (by omega) (fun i hi => hx i (by omega)), hx n (by omega) (fun q => hk q.symm)]
      omega
theorem cn_z {P : Nat → Bool} (n : Nat) (h : ∀ i, i < n → P i = false) : cn_t P n = 0 := by
  induction n with
  | zero => rfl
  | succ n ih =>
    simp only [cn_t]
    rw [ih (fun i hi => h i (by omega)), h n (by omega)]
    simp
theorem cn_all {P : Nat → Bool} (n : Nat) (h : ∀ i, i < n → P i = true) : cn_t P n = n := by
  induction n with
  | zero => rfl
  | succ n ih =>
    simp only [cn_t]
    rw [ih (fun i hi => h i (by omega)), h n (by omega)]
    simp
theorem cn_run {Q : Nat → Bool} (a k : Nat) (v : Bool) : (∀ r, r < k → Q (a + r) = v) → cn_t Q (a + k) = cn_t Q a + (if v = true then k else 0) := by
  induction k with
  | zero => intro _; simp
  | succ k ih =>
    intro h
    have e : a + (k + 1) = (a + k) + 1 := by omega
    rw [e]
    simp only [cn_t]
    rw [ih (fun r hr => h r (by omega)), h k (by omega)]
    cases v <;> simp
    omega
theorem cn_mul {P Q : Nat → Bool} (k m : Nat) : (∀ t r, t < m → r < k → Q (t * k + r) = P t) → cn_t Q (m * k) = cn_t P m * k := by
  induction m with
  | zero => intro _; simp [cn_t]
  | succ m ih =>
    intro h
    rw [Nat.succ_mul, cn_run (m * k) k (P m) (fun r hr => h m r (by omega) hr), ih (fun t r ht hr => h t r (by omega) hr)]
    simp only [cn_t]
    cases P m <;> simp [Nat.add_mul]
theorem cn_mono {P Q : Nat → Bool} (n : Nat) (h : ∀ i, i < n → P i = true → Q i = true) : cn_t P n ≤ cn_t Q n := by
  induction n with
  | zero => exact Nat.le_refl _
  | succ n ih =>
    simp only [cn_t]
    have h1 := ih (fun i hi => h i (by omega))
    have h2 := h n (by omega)
    cases hp : P n
    · cases hq : Q n <;> simp <;> omega
    · rw [h2 hp]
      simp
      omega
/-- the least of the first n that is P; n where there is none -/
def le_a (P : Nat → Bool) : Nat → Nat
  | 0 => 0
  | n + 1 => if le_a P n < n then le_a P n else if P n = true then n else n + 1
theorem le_le (P : Nat → Bool) (n : Nat) : le_a P n ≤ n := by
  induction n with
  | zero => exact Nat.le_refl _
  | succ n ih =>
    simp only [le_a]
    split
    · omega
    · split <;> omega
theorem le_is {P : Nat → Bool} (n : Nat) : le_a P n < n → P (le_a P n) = true := by
  induction n with
  | zero => intro h; exact absurd h (Nat.lt_irrefl _)
  | succ n ih =>
    intro h
    simp only [le_a] at h ⊢
    by_cases h1 : le_a P n < n
    · rw [if_pos h1]
      exact ih h1
    · rw [if_neg h1] at h ⊢
      by_cases h2 : P n = true
      · rw [if_pos h2]
        exact h2
      · rw [if_neg h2] at h
        omega
theorem le_mn {P : Nat → Bool} {j : Nat} (n : Nat) : j < le_a P n → P j = false := by
  induction n with
  | zero => intro h; exact absurd h (Nat.not_lt_zero _)
  | succ n ih =>
    intro h
    simp only [le_a] at h
    have hl := le_le P n
    by_cases h1 : le_a P n < n
    · rw [if_pos h1] at h
      exact ih h
    · rw [if_neg h1] at h
      by_cases h2 : P n = true
      · rw [if_pos h2] at h
        exact ih (by omega)
      · rw [if_neg h2] at h
        by_cases hj : j < n
        · exact ih (by omega)
        · have e : j = n := by omega
          subst e
          exact cl_ft h2
theorem le_eq {P : Nat → Bool} {n k : Nat} (hk : k < n) (hP : P k = true) (hm : ∀ j, j < k → P j = false) : le_a P n = k := by
  have h1 : ¬ le_a P n < k := fun h => by
    have a := hm _ h
    rw [le_is (P := P) n (by omega)] at a
    cases a
  have h2 : ¬ k < le_a P n := fun h => by
    have a := le_mn n h
    rw [hP] at a
    cases a
  omega
theorem le_no {P : Nat → Bool} {n : Nat} (h : ∀ j, j < n → P j = false) : le_a P n = n := by
  have hl := le_le P n
  by_cases h1 : le_a P n < n
  · have a := h _ h1
    rw [le_is n h1] at a
    cases a
  · omega
theorem le_ge {P : Nat → Bool} {n : Nat} (h : ¬ le_a P n < n) : ∀ j, j < n → P j = false := fun j hj => le_mn n (by have := le_le P n; omega)
theorem le_ex {P Q : Nat → Bool} (n : Nat) (h : ∀ i, i < n → P i = Q i) : le_a P n = le_a Q n := by
  induction n with
  | zero => rfl
  | succ n ih =>
    simp only [le_a]
    rw [ih (fun i hi => h i (by omega)), h n (by omega)]
end
section
/-! the state and its invariant -/
def ad_b (w : Int32) : Bool := decide (4096 ≤ w.toInt ∧ w.toInt < 4608)
def ad_x (w : Int32) : Nat := (w.toInt - 4096).toNat
theorem ad_l {w : Int32} (h : ad_b w = true) : ad_x w < 512 ∧ w = nI (4096 + ad_x w) := by
  have h1 : 4096 ≤ w.toInt ∧ w.toInt < 4608 := of_decide_eq_true h
  have h2 : ad_x w < 512 := by unfold ad_x; omega
  refine ⟨h2, Int32.toInt_inj.mp ?_⟩
  rw [nI_toInt (by omega)]
  unfold ad_x
  omega
theorem ad_i {i : Nat} (h : i < 512) : ad_b (nI (4096 + i)) = true ∧ ad_x (nI (4096 + i)) = i := by
  have e : (nI (4096 + i)).toInt = ((4096 + i : Nat) : Int) := nI_toInt (by omega)
  constructor
  · unfold ad_b
    rw [e]
    exact decide_eq_true (by omega)
  · unfold ad_x
    rw [e]
    omega
def oa_n (ob : Nat → Nat) (w : Int32) : Nat := if ad_b w = true then ob (ad_x w) else 0
/-- roots, words, of each word its object's start + 1 or 0, at a start its length, a block's kind, at a start whether it is silent, doubtful, how many objects, how many collections -/
abbrev zz_T : Type := (Nat → Int32) × (Nat → Int32) × (Nat → Nat) × (Nat → Nat) × (Nat → Nat) × (Nat → Bool) × (Nat → Bool) × Nat × Nat
def iv_o (ob ln kd : Nat → Nat) : Prop := ∀ i, i < 512 → ∀ p, ob i = p + 1 → p ≤ i ∧ i < p + ln p ∧ p + ln p ≤ 512 ∧ p % 2 = 0 ∧ (∀ j, p ≤ j → j < p + ln p → ob j = p + 1) ∧
  ((kd (p / 32) = ln p ∧ (ln p = 2 ∨ ln p = 4 ∨ ln p = 8 ∨ ln p = 16) ∧ p % ln p = 0) ∨ (kd (p / 32) = 32 ∧ p % 32 = 0 ∧ ln p % 32 = 0 ∧ ∀ b, p / 32 < b → b < (p + ln p) / 32 → kd b = 33))
def iv_k (kd : Nat → Nat) : Prop := ∀ b, b < 16 → kd b = 0 ∨ kd b = 2 ∨ kd b = 4 ∨ kd b = 8 ∨ kd b = 16 ∨ kd b = 32 ∨ kd b = 33
def iv_f (ob kd : Nat → Nat) : Prop := ∀ i, i < 512 → kd (i / 32) = 0 → ob i = 0
def iv_l (ob kd : Nat → Nat) : Prop := ∀ i, i < 512 → 32 ≤ kd (i / 32) → ob i ≠ 0
def iv_w (ob : Nat → Nat) (wd : Nat → Int32) : Prop := ∀ i, i < 512 → ob i = 0 → wd i = 0
noncomputable def iv_c (ob : Nat → Nat) : Nat := cn_t (fun i => cl_b (ob i = i + 1)) 512
def iv_a (ob ln kd : Nat → Nat) (wd : Nat → Int32) (oc : Nat) : Prop := iv_o ob ln kd ∧ iv_k kd ∧ iv_f ob kd ∧ iv_l ob kd ∧ iv_w ob wd ∧ oc = iv_c ob
/-- every value of the tables is small -/
theorem iv_lt {ob ln kd : Nat → Nat} (ho : iv_o ob ln kd) {i : Nat} (hi : i < 512) : ob i < 513 := by
  cases h : ob i with
  | zero => omega
  | succ p =>
    have := ho i hi p h
    omega
theorem iv_kl {kd : Nat → Nat} (h : iv_k kd) {b : Nat} (hb : b < 16) : kd b < 34 := by
  rcases h b hb with e | e | e | e | e | e | e <;> omega
theorem iv_st {ob ln kd : Nat → Nat} (ho : iv_o ob ln kd) {i p : Nat} (hi : i < 512) (h : ob i = p + 1) : p < 512 ∧ ob p = p + 1 ∧ p + ln p ≤ 512 ∧ p % 2 = 0 ∧ 2 ≤ ln p := by
  obtain ⟨a1, a2, a3, a4, a5, a6⟩ := ho i hi p h
  refine ⟨by omega, a5 p (Nat.le_refl _) (by omega), a3, a4, ?_⟩
  rcases a6 with ⟨-, b2, -⟩ | ⟨-, -, b3, -⟩
  · rcases b2 with e | e | e | e <;> omega
  · omega
/-- the kind of a word's block, of a word in an object -/
theorem iv_kp {ob ln kd : Nat → Nat} (ho : iv_o ob ln kd) {i p : Nat} (hi : i < 512) (h : ob i = p + 1) : (kd (i / 32) = ln p ∧ i / 32 = p / 32 ∧ (ln p = 2 ∨ ln p = 4 ∨ ln p = 8 ∨ ln p = 16) ∧ p % ln p = 0) ∨ (32 ≤ kd (i / 32) ∧ p % 32 = 0 ∧ ln p % 32 = 0) := by
  obtain ⟨a1, a2, a3, a4, a5, a6⟩ := ho i hi p h
  rcases a6 with ⟨b1, b2, b3⟩ | ⟨b1, b2, b3, b4⟩
  · have e : i / 32 = p / 32 := by
      rcases b2 with e | e | e | e <;> rw [e] at a2 b3 <;> omega
    exact Or.inl ⟨by rw [e]; exact b1, e, b2, b3⟩
  · refine Or.inr ⟨?_, b2, b3⟩
    by_cases e : i / 32 = p / 32
    · rw [e, b1]
      exact Nat.le_refl _
    · rw [b4 (i / 32) (by omega) (by omega)]
      omega
/-- a slot is empty as a whole -/
theorem iv_slot {ob ln kd : Nat → Nat} (ho : iv_o ob ln kd) {i j s : Nat} (hi : i < 512) (hs : s = 2 ∨ s = 4 ∨ s = 8 ∨ s = 16) (hk : kd (i / 32) = s) (h0 : ob i = 0) (hj : j / s = i / s) : ob j = 0 := by
  cases hp : ob j with
  | zero => rfl
  | succ p =>
    exfalso
    have hj5 : j < 512 := by rcases hs with e | e | e | e <;> subst e <;> omega
    have hb : j / 32 = i / 32 := by rcases hs with e | e | e | e <;> subst e <;> omega
    obtain ⟨a1, a2, a3, a4, a5, a6⟩ := ho j hj5 p hp
    rcases iv_kp ho hj5 hp with ⟨b1, b2, b3, b4⟩ | ⟨b1, b2, b3⟩
    · rw [hb, hk] at b1
      rw [← b1] at a2 b4 a5
      have h1 : p ≤ i ∧ i < p + s := by
        rcases hs with e | e | e | e <;> subst e <;> omega
      have h2 := a5 i h1.1 h1.2
      omega
    · rw [hb, hk] at b1
      omega
/-- a block of a large object is that object's as a whole -/
theorem iv_big {ob ln kd : Nat → Nat} (ho : iv_o ob ln kd) {i j p : Nat} (hi : i < 512) (hk : 32 ≤ kd (i / 32)) (h : ob i = p + 1) (hj : j / 32 = i / 32) : ob j = p + 1 ∧ p ≤ 32 * (i / 32) ∧ 32 * (i / 32) < p + ln p := by
  obtain ⟨a1, a2, a3, a4, a5, a6⟩ := ho i hi p h
  rcases iv_kp ho hi h with ⟨b1, b2, b3, b4⟩ | ⟨b1, b2, b3⟩
  · rcases b3 with e | e | e | e <;> omega
  · exact ⟨a5 j (by omega) (by omega), by omega, by omega⟩
/-! finding room -/
def sz_f (n : Nat) : Nat := if n ≤ 2 then 2 else if n ≤ 4 then 4 else if n ≤ 8 then 8 else 16
def bk_f (n : Nat) : Nat := (n + 31) / 32
theorem sz_is (n : Nat) : sz_f n = 2 ∨ sz_f n = 4 ∨ sz_f n = 8 ∨ sz_f n = 16 := by
  unfold sz_f
  split
  · simp
  · split
    · simp
    · split <;> simp
def us_b (kd : Nat → Nat) (df : Nat → Bool) (f : Bool) (b : Nat) : Bool := decide (kd b = 0) && (f || !df b)
noncomputable def rn_b (kd : Nat → Nat) (df : Nat → Bool) (f : Bool) (c b : Nat) : Bool := cl_b (b + c ≤ 16 ∧ ∀ j, j < c → us_b kd df f (b + j) = true)
/-- the first block of a row of c blocks; 16: there is none -/
noncomputable def rm_b (kd : Nat → Nat) (df : Nat → Bool) (f : Bool) (c : Nat) : Nat := le_a (rn_b kd df f c) 16
/-- the first empty slot; 512: there is none -/
noncomputable def rm_s (ob kd : Nat → Nat) (s : Nat) : Nat := le_a (fun i => cl_b (kd (i / 32) = s ∧ ob i = 0)) 512
/-- the room for n words; 512: there is none -/
noncomputable def rm_n (ob kd : Nat → Nat) (df : Nat → Bool) (n : Nat) (f : Bool) : Nat :=
  if n ≤ 16 then (if rm_s ob kd (sz_f n) < 512 then rm_s ob kd (sz_f n) else 32 * rm_b kd df f 1) else 32 * rm_b kd df f (bk_f n)
theorem us_t {kd : Nat → Nat} {df : Nat → Bool} {f : Bool} {b : Nat} : us_b kd df f b = true ↔ kd b = 0 ∧ (f = true ∨ df b = false) := by
  unfold us_b
  cases f <;> cases df b <;> simp
theorem rm_bl (kd : Nat → Nat) (df : Nat → Bool) (f : Bool) (c : Nat) : rm_b kd df f c ≤ 16 := le_le (rn_b kd df f c) 16
theorem rm_bi {kd : Nat → Nat} {df : Nat → Bool} {f : Bool} {c : Nat} (h : rm_b kd df f c < 16) : rm_b kd df f c + c ≤ 16 ∧ ∀ j, j < c → kd (rm_b kd df f c + j) = 0 := by
  have h1 := cl_t.mp (le_is (P := rn_b kd df f c) 16 h)
  exact ⟨h1.1, fun j hj => (us_t.mp (h1.2 j hj)).1⟩
theorem rm_sl (ob kd : Nat → Nat) (s : Nat) : rm_s ob kd s ≤ 512 := le_le (fun i => cl_b (kd (i / 32) = s ∧ ob i = 0)) 512
theorem rm_si {ob kd : Nat → Nat} {s : Nat} (h : rm_s ob kd s < 512) : kd (rm_s ob kd s / 32) = s ∧ ob (rm_s ob kd s) = 0 := by
  have h1 := le_is (P := fun i => cl_b (kd (i / 32) = s ∧ ob i = 0)) 512 h
  exact cl_t.mp h1
theorem rm_sm {ob kd : Nat → Nat} {s j : Nat} (h : j < rm_s ob kd s) : ¬ (kd (j / 32) = s ∧ ob j = 0) := by
  have h1 := le_mn (P := fun i => cl_b (kd (i / 32) = s ∧ ob i = 0)) 512 h
  exact cl_f.mp h1
/-- it begins a slot -/
theorem rm_sa {ob ln kd : Nat → Nat} (ho : iv_o ob ln kd) {s : Nat} (hs : s = 2 ∨ s = 4 ∨ s = 8 ∨ s = 16) (h : rm_s ob kd s < 512) : rm_s ob kd s % s = 0 := by
  obtain ⟨h1, h2⟩ := rm_si h
  generalize hr : rm_s ob kd s = r at h h1 h2 ⊢
  by_cases hz : r % s = 0
  · exact hz
  · exfalso
    have hlt : r - r % s < r := by
      have : r % s ≤ r := Nat.mod_le _ _
      omega
    have hd : (r - r % s) / s = r / s := by
      rcases hs with e | e | e | e <;> subst e <;> omega
    have hb : (r - r % s) / 32 = r / 32 := by
      rcases hs with e | e | e | e <;> subst e <;> omega
    have h3 := iv_slot ho h hs h1 h2 hd
    exact rm_sm (ob := ob) (kd := kd) (s := s) (j := r - r % s) (by rw [hr]; exact hlt) ⟨by rw [hb]; exact h1, h3⟩
/-- what the reference looks for, slot by slot, is the same -/
theorem rm_sq {ob ln kd : Nat → Nat} (ho : iv_o ob ln kd) {s i : Nat} (hs : s = 2 ∨ s = 4 ∨ s = 8 ∨ s = 16) (hi : i < 512) (h1 : kd (i / 32) = s) (h2 : ob i = 0) (hm : ∀ j, j < i → j % 2 = 0 → ¬ (kd (j / 32) = s ∧ j % s = 0 ∧ ob j = 0)) : rm_s ob kd s = i := by
  refine le_eq (P := fun i => cl_b (kd (i / 32) = s ∧ ob i = 0)) hi (cl_t.mpr ⟨h1, h2⟩) (fun j hj => cl_f.mpr (fun hq => ?_))
  obtain ⟨q1, q2⟩ := hq
  have hle : j % s ≤ j := Nat.mod_le _ _
  have hd : (j - j % s) / s = j / s := by
    rcases hs with e | e | e | e <;> subst e <;> omega
  have hb : (j - j % s) / 32 = j / 32 := by
    rcases hs with e | e | e | e <;> subst e <;> omega
  have h3 := iv_slot ho (i := j) (by omega) hs q1 q2 hd
  refine hm (j - j % s) (by omega) ?_ ⟨by rw [hb]; exact q1, ?_, h3⟩
  · rcases hs with e | e | e | e <;> subst e <;> omega
  · rcases hs with e | e | e | e <;> subst e <;> omega
theorem rm_sn {ob ln kd : Nat → Nat} (ho : iv_o ob ln kd) {s : Nat} (hs : s = 2 ∨ s = 4 ∨ s = 8 ∨ s = 16) (hm : ∀ j, j < 512 → j % 2 = 0 → ¬ (kd (j / 32) = s ∧ j % s = 0 ∧ ob j = 0)) : ¬ rm_s ob kd s < 512 := by
  intro h
  obtain ⟨h1, h2⟩ := rm_si h
  have h3 := rm_sa ho hs h
  refine hm _ h ?_ ⟨h1, h3, h2⟩
  rcases hs with e | e | e | e <;> subst e <;> omega
end
section
/-! a new object -/
def ss_n (n : Nat) : Nat := if n ≤ 16 then sz_f n else bk_f n * 32
def st_ob (ob : Nat → Nat) (a z : Nat) : Nat → Nat := fun j => if a ≤ j ∧ j < a + z then a + 1 else ob j
def st_kd (kd : Nat → Nat) (a z n : Nat) : Nat → Nat := fun b => if a / 32 ≤ b ∧ 32 * b < a + z then (if n ≤ 16 then z else if b = a / 32 then 32 else 33) else kd b
def st_df (df : Nat → Bool) (a z : Nat) : Nat → Bool := fun b => if a / 32 ≤ b ∧ 32 * b < a + z then false else df b
theorem ss_s {n : Nat} (h : n ≤ 16) : ss_n n = sz_f n := by unfold ss_n; rw [if_pos h]
theorem ss_g {n : Nat} (h : ¬ n ≤ 16) : ss_n n = bk_f n * 32 := by unfold ss_n; rw [if_neg h]
/-- what is known of a room that was found -/
def rm_ok (ob kd : Nat → Nat) (n a : Nat) : Prop := a + ss_n n ≤ 512 ∧ a % 2 = 0 ∧ 2 ≤ ss_n n ∧ (∀ j, a ≤ j → j < a + ss_n n → ob j = 0) ∧
  ((n ≤ 16 ∧ ss_n n = sz_f n ∧ a % ss_n n = 0 ∧ (kd (a / 32) = 0 ∨ kd (a / 32) = ss_n n)) ∨ (¬ n ≤ 16 ∧ a % 32 = 0 ∧ ss_n n = bk_f n * 32 ∧ ∀ b, a / 32 ≤ b → 32 * b < a + ss_n n → kd b = 0))
theorem rm_fact {ob ln kd : Nat → Nat} {df : Nat → Bool} {f : Bool} {n : Nat} (ho : iv_o ob ln kd) (hf : iv_f ob kd) (h1 : 1 ≤ n) (h : rm_n ob kd df n f < 512) : rm_ok ob kd n (rm_n ob kd df n f) := by
  by_cases hn : n ≤ 16
  · have hs := sz_is n
    have hz := ss_s hn
    unfold rm_n at h ⊢
    rw [if_pos hn] at h ⊢
    by_cases hr : rm_s ob kd (sz_f n) < 512
    · rw [if_pos hr] at h ⊢
      obtain ⟨k1, k2⟩ := rm_si hr
      have k3 := rm_sa ho hs hr
      generalize rm_s ob kd (sz_f n) = r at hr h k1 k2 k3 ⊢
      unfold rm_ok
      rw [hz]
      generalize sz_f n = z at hs k1 k3 hz ⊢
      refine ⟨?_, ?_, ?_, fun j j1 j2 => iv_slot ho hr hs k1 k2 ?_, Or.inl ⟨hn, rfl, k3, Or.inr k1⟩⟩
      · rcases hs with e | e | e | e <;> subst e <;> omega
      · rcases hs with e | e | e | e <;> subst e <;> omega
      · rcases hs with e | e | e | e <;> subst e <;> omega
      · rcases hs with e | e | e | e <;> subst e <;> omega
    · rw [if_neg hr] at h ⊢
      have hb : rm_b kd df f 1 < 16 := by omega
      have k1 := (rm_bi hb).2 0 (by omega)
      rw [Nat.add_zero] at k1
      generalize rm_b kd df f 1 = b at h hb k1 ⊢
      have e0 : 32 * b / 32 = b := by omega
      unfold rm_ok
      rw [hz, e0]
      generalize sz_f n = z at hs hz ⊢
      refine ⟨?_, by omega, ?_, fun j j1 j2 => hf j ?_ ?_, Or.inl ⟨hn, rfl, ?_, Or.inl k1⟩⟩
      · rcases hs with e | e | e | e <;> subst e <;> omega
      · rcases hs with e | e | e | e <;> subst e <;> omega
      · rcases hs with e | e | e | e <;> subst e <;> omega
      · have e1 : j / 32 = b := by rcases hs with e | e | e | e <;> subst e <;> omega
        rw [e1]
        exact k1
      · rcases hs with e | e | e | e <;> subst e <;> omega
  · have hz := ss_g hn
    unfold rm_n at h ⊢
    rw [if_neg hn] at h ⊢
    have hb : rm_b kd df f (bk_f n) < 16 := by omega
    obtain ⟨k1, k2⟩ := rm_bi hb
    generalize rm_b kd df f (bk_f n) = b at h hb k1 k2 ⊢
    have e0 : 32 * b / 32 = b := by omega
    have hc : 1 ≤ bk_f n := by unfold bk_f; omega
    unfold rm_ok
    rw [hz, e0]
    generalize hcc : bk_f n = k at k1 k2 hc ⊢
    refine ⟨by omega, by omega, by omega, fun j j1 j2 => hf j (by omega) ?_, Or.inr ⟨hn, by omega, rfl, fun b' b1 b2 => ?_⟩⟩
    · have e1 := k2 (j / 32 - b) (by omega)
      rwa [show b + (j / 32 - b) = j / 32 by omega] at e1
    · have e1 := k2 (b' - b) (by omega)
      rwa [show b + (b' - b) = b' by omega] at e1
theorem st_in {ob : Nat → Nat} {a z j : Nat} (h : a ≤ j ∧ j < a + z) : st_ob ob a z j = a + 1 := if_pos h
theorem st_out {ob : Nat → Nat} {a z j : Nat} (h : ¬ (a ≤ j ∧ j < a + z)) : st_ob ob a z j = ob j := if_neg h
theorem st_cnt {ob kd : Nat → Nat} {n a : Nat} (h : rm_ok ob kd n a) : iv_c (st_ob ob a (ss_n n)) = iv_c ob + 1 := by
  obtain ⟨r1, r2, r3, r4, -⟩ := h
  unfold iv_c
  refine cn_set (k := a) (cl_f.mpr ?_) (cl_t.mpr ?_) 512 (by omega) (fun i hi hne => cl_e ?_)
  · rw [r4 a (Nat.le_refl _) (by omega)]
    omega
  · exact st_in ⟨Nat.le_refl _, by omega⟩
  · by_cases hin : a ≤ i ∧ i < a + ss_n n
    · rw [st_in hin, r4 i hin.1 hin.2]
      omega
    · rw [st_out hin]
theorem st_iv {ob ln kd : Nat → Nat} {wd : Nat → Int32} {oc n a : Nat} (hv : iv_a ob ln kd wd oc) (h1 : 1 ≤ n) (h : rm_ok ob kd n a) :
    iv_a (st_ob ob a (ss_n n)) (va_up ln a (ss_n n)) (st_kd kd a (ss_n n) n) wd (oc + 1) := by
  obtain ⟨ho, hk, hf, hl, hw, hc⟩ := hv
  have hcnt := st_cnt h
  obtain ⟨r1, r2, r3, r4, r5⟩ := h
  have hz16 : n ≤ 16 → ss_n n = 2 ∨ ss_n n = 4 ∨ ss_n n = 8 ∨ ss_n n = 16 := fun hn => by rw [ss_s hn]; exact sz_is n
  generalize hz : ss_n n = z at r1 r3 r4 r5 hcnt hz16 ⊢
  -- the kind of a block in which an old object lies
  have kold : ∀ i, i < 512 → ob i ≠ 0 → st_kd kd a z n (i / 32) = kd (i / 32) := by
    intro i hi hne
    unfold st_kd
    by_cases hb : a / 32 ≤ i / 32 ∧ 32 * (i / 32) < a + z
    · rw [if_pos hb]
      rcases r5 with ⟨s1, s2, s3, s4⟩ | ⟨s1, s2, s3, s4⟩
      · rw [if_pos s1]
        have e : i / 32 = a / 32 := by
          have := hz16 s1
          rcases this with e | e | e | e <;> subst e <;> omega
        rw [e]
        rcases s4 with q | q
        · exact absurd (hf i hi (by rw [e]; exact q)) hne
        · exact q.symm
      · exact absurd (hf i hi (s4 _ hb.1 hb.2)) hne
    · rw [if_neg hb]
  have klarge : ∀ b, b < 16 → 32 ≤ kd b → st_kd kd a z n b = kd b := by
    intro b hb h32
    have e : b = (32 * b) / 32 := by omega
    have := kold (32 * b) (by omega) (hl _ (by omega) (by rw [← e]; exact h32))
    rwa [← e] at this
  refine ⟨?_, ?_, ?_, ?_, ?_, by rw [hcnt, hc]⟩
  · intro i hi p hp
    by_cases hin : a ≤ i ∧ i < a + z
    · rw [st_in hin] at hp
      have e : a = p := by omega
      subst e
      have el : va_up ln a z a = z := va_up_self ln a z
      rw [el]
      refine ⟨hin.1, hin.2, r1, r2, fun j j1 j2 => st_in ⟨j1, j2⟩, ?_⟩
      have hka : ∀ b, a / 32 ≤ b → 32 * b < a + z → st_kd kd a z n b = (if n ≤ 16 then z else if b = a / 32 then 32 else 33) := fun b b1 b2 => if_pos ⟨b1, b2⟩
      rcases r5 with ⟨s1, s2, s3, s4⟩ | ⟨s1, s2, s3, s4⟩
      · refine Or.inl ⟨?_, hz16 s1, s3⟩
        rw [hka (a / 32) (Nat.le_refl _) (by omega), if_pos s1]
      · refine Or.inr ⟨?_, s2, by omega, fun b b1 b2 => ?_⟩
        · rw [hka (a / 32) (Nat.le_refl _) (by omega), if_neg s1, if_pos rfl]
        · rw [hka b (by omega) (by omega), if_neg s1, if_neg (by omega)]
    · rw [st_out hin] at hp
      obtain ⟨a1, a2, a3, a4, a5, a6⟩ := ho i hi p hp
      have hpp : ob p = p + 1 := a5 p (Nat.le_refl _) (by omega)
      have hne : p ≠ a := by
        intro e
        subst e
        have := r4 p (Nat.le_refl _) (by omega)
        omega
      have el : va_up ln a z p = ln p := va_up_ne ln z hne
      rw [el]
      have kp := kold p (by omega) (by omega)
      refine ⟨a1, a2, a3, a4, fun j j1 j2 => ?_, ?_⟩
      · have h5 := a5 j j1 j2
        rw [st_out]
        · exact h5
        · intro q
          have := r4 j q.1 q.2
          omega
      · rw [kp]
        rcases a6 with ⟨b1, b2, b3⟩ | ⟨b1, b2, b3, b4⟩
        · exact Or.inl ⟨b1, b2, b3⟩
        · refine Or.inr ⟨b1, b2, b3, fun b c1 c2 => ?_⟩
          have e := b4 b c1 c2
          rw [klarge b (by omega) (by rw [e]; omega)]
          exact e
  · intro b hb
    unfold st_kd
    split
    · split
      · rename_i s1
        rcases hz16 s1 with e | e | e | e <;> simp [e]
      · split <;> simp
    · exact hk b hb
  · intro i hi h0
    by_cases hin : a ≤ i ∧ i < a + z
    · exfalso
      have e : st_kd kd a z n (i / 32) = (if n ≤ 16 then z else if i / 32 = a / 32 then 32 else 33) := if_pos ⟨by omega, by omega⟩
      rw [e] at h0
      split at h0
      · omega
      · split at h0 <;> omega
    · rw [st_out hin]
      by_cases hne : ob i = 0
      · exact hne
      · rw [kold i hi hne] at h0
        exact hf i hi h0
  · intro i hi h32
    by_cases hin : a ≤ i ∧ i < a + z
    · rw [st_in hin]
      omega
    · rw [st_out hin]
      by_cases hb : a / 32 ≤ i / 32 ∧ 32 * (i / 32) < a + z
      · exfalso
        have e : st_kd kd a z n (i / 32) = (if n ≤ 16 then z else if i / 32 = a / 32 then 32 else 33) := if_pos hb
        rcases r5 with ⟨s1, s2, s3, s4⟩ | ⟨s1, s2, s3, s4⟩
        · rw [e, if_pos s1] at h32
          rcases hz16 s1 with e | e | e | e <;> omega
        · omega
      · have e : st_kd kd a z n (i / 32) = kd (i / 32) := if_neg hb
        rw [e] at h32
        exact hl i hi h32
  · intro i hi h0
    by_cases hin : a ≤ i ∧ i < a + z
    · exact hw i hi (r4 i hin.1 hin.2)
    · rw [st_out hin] at h0
      exact hw i hi h0
end
section
/-! marking: what is looked at, what it marks, what becomes doubtful -/
/-- the words that are looked at when X is marked -/
def mk_s (rt wd : Nat → Int32) (ln : Nat → Nat) (qt : Nat → Bool) (X : Nat → Prop) (w : Int32) : Prop := (∃ r, r < 8 ∧ w = rt r) ∨ ∃ q j, X q ∧ qt q = false ∧ j < ln q ∧ w = wd (q + j)
def mk_d (ob kd : Nat → Nat) (w : Int32) (b : Nat) : Prop := ad_b w = true ∧ ob (ad_x w) = 0 ∧ kd (ad_x w / 32) = 0 ∧ ad_x w / 32 = b
def mk_c (rt wd : Nat → Int32) (ob ln : Nat → Nat) (qt : Nat → Bool) (X : Nat → Prop) : Prop := ∀ w p, mk_s rt wd ln qt X w → oa_n ob w = p + 1 → X p
/-- the fewest that agree -/
def mk_r (rt wd : Nat → Int32) (ob ln : Nat → Nat) (qt : Nat → Bool) (p : Nat) : Prop := ∀ X : Nat → Prop, mk_c rt wd ob ln qt X → X p
theorem mk_sm {rt wd : Nat → Int32} {ln : Nat → Nat} {qt : Nat → Bool} {X Y : Nat → Prop} (h : ∀ q, X q → Y q) {w : Int32} (hs : mk_s rt wd ln qt X w) : mk_s rt wd ln qt Y w := by
  rcases hs with h1 | ⟨q, j, h1, h2⟩
  · exact Or.inl h1
  · exact Or.inr ⟨q, j, h q h1, h2⟩
theorem mk_rc (rt wd : Nat → Int32) (ob ln : Nat → Nat) (qt : Nat → Bool) : mk_c rt wd ob ln qt (mk_r rt wd ob ln qt) := fun w p hs hp X hX => hX w p (mk_sm (fun q hq => hq X hX) hs) hp
/-- marked and doubtful are what the words P that were looked at say -/
def mk_i (ob kd : Nat → Nat) (mk df : Nat → Bool) (P : Int32 → Prop) : Prop := (∀ p, mk p = true ↔ ∃ w, P w ∧ oa_n ob w = p + 1) ∧ ∀ b, df b = true ↔ ∃ w, P w ∧ mk_d ob kd w b
theorem mk_i0 (ob kd : Nat → Nat) : mk_i ob kd (fun _ => false) (fun _ => false) (fun _ => False) := by
  refine ⟨fun p => ⟨fun h => (by cases h), fun ⟨w, h, _⟩ => h.elim⟩, fun p => ⟨fun h => (by cases h), fun ⟨w, h, _⟩ => h.elim⟩⟩
theorem mk_ix {ob kd : Nat → Nat} {mk mk' df df' : Nat → Bool} {P P' : Int32 → Prop} (h : mk_i ob kd mk df P) (h1 : ∀ p, mk' p = mk p) (h2 : ∀ b, df' b = df b) (h3 : ∀ w, P' w ↔ P w) : mk_i ob kd mk' df' P' := by
  refine ⟨fun p => ?_, fun b => ?_⟩
  · rw [h1, h.1 p]
    exact ⟨fun ⟨w, a, b⟩ => ⟨w, (h3 w).mpr a, b⟩, fun ⟨w, a, b⟩ => ⟨w, (h3 w).mp a, b⟩⟩
  · rw [h2, h.2 b]
    exact ⟨fun ⟨w, a, b⟩ => ⟨w, (h3 w).mpr a, b⟩, fun ⟨w, a, b⟩ => ⟨w, (h3 w).mp a, b⟩⟩
/-- a word that is no address, or of no object and in no free block -/
theorem mk_no {ob kd : Nat → Nat} {mk df : Nat → Bool} {P : Int32 → Prop} {w : Int32} (h : mk_i ob kd mk df P) (h0 : oa_n ob w = 0) (hd : ∀ b, ¬ mk_d ob kd w b) : mk_i ob kd mk df (fun v => P v ∨ v = w) := by
  refine ⟨fun p => ?_, fun b => ?_⟩
  · rw [h.1 p]
    refine ⟨fun ⟨v, a, e⟩ => ⟨v, Or.inl a, e⟩, fun ⟨v, a, e⟩ => ?_⟩
    rcases a with a | a
    · exact ⟨v, a, e⟩
    · subst a
      omega
  · rw [h.2 b]
    refine ⟨fun ⟨v, a, e⟩ => ⟨v, Or.inl a, e⟩, fun ⟨v, a, e⟩ => ?_⟩
    rcases a with a | a
    · exact ⟨v, a, e⟩
    · subst a
      exact absurd e (hd b)
theorem mk_na {ob kd : Nat → Nat} {mk df : Nat → Bool} {P : Int32 → Prop} {w : Int32} (h : mk_i ob kd mk df P) (ha : ad_b w = false) : mk_i ob kd mk df (fun v => P v ∨ v = w) := by
  refine mk_no h ?_ (fun b hb => ?_)
  · unfold oa_n
    rw [ha]
    rfl
  · have := hb.1
    rw [ha] at this
    cases this
theorem mk_hit {ob kd : Nat → Nat} {mk df : Nat → Bool} {P : Int32 → Prop} {w : Int32} {p : Nat} (h : mk_i ob kd mk df P) (hp : oa_n ob w = p + 1) : mk_i ob kd (va_up mk p true) df (fun v => P v ∨ v = w) := by
  refine ⟨fun q => ?_, fun b => ?_⟩
  · by_cases e : q = p
    · subst e
      rw [va_up_self]
      exact ⟨fun _ => ⟨w, Or.inr rfl, hp⟩, fun _ => rfl⟩
    · rw [va_up_ne mk true e, h.1 q]
      refine ⟨fun ⟨v, a, e⟩ => ⟨v, Or.inl a, e⟩, fun ⟨v, a, e2⟩ => ?_⟩
      rcases a with a | a
      · exact ⟨v, a, e2⟩
      · subst a
        omega
  · rw [h.2 b]
    refine ⟨fun ⟨v, a, e⟩ => ⟨v, Or.inl a, e⟩, fun ⟨v, a, e⟩ => ?_⟩
    rcases a with a | a
    · exact ⟨v, a, e⟩
    · subst a
      obtain ⟨e1, e2, -⟩ := e
      unfold oa_n at hp
      rw [if_pos e1] at hp
      omega
theorem mk_had {ob kd : Nat → Nat} {mk df : Nat → Bool} {P : Int32 → Prop} {w : Int32} {p : Nat} (h : mk_i ob kd mk df P) (hp : oa_n ob w = p + 1) (hm : mk p = true) : mk_i ob kd mk df (fun v => P v ∨ v = w) := by
  refine mk_ix (mk_hit h hp) (fun q => ?_) (fun _ => rfl) (fun _ => Iff.rfl)
  by_cases e : q = p
  · subst e
    rw [va_up_self]
    exact hm
  · rw [va_up_ne mk true e]
theorem mk_dbt {ob kd : Nat → Nat} {mk df : Nat → Bool} {P : Int32 → Prop} {w : Int32} (h : mk_i ob kd mk df P) (h1 : ad_b w = true) (h2 : ob (ad_x w) = 0) (h3 : kd (ad_x w / 32) = 0) : mk_i ob kd mk (va_up df (ad_x w / 32) true) (fun v => P v ∨ v = w) := by
  refine ⟨fun p => ?_, fun b => ?_⟩
  · rw [h.1 p]
    refine ⟨fun ⟨v, a, e⟩ => ⟨v, Or.inl a, e⟩, fun ⟨v, a, e⟩ => ?_⟩
    rcases a with a | a
    · exact ⟨v, a, e⟩
    · subst a
      unfold oa_n at e
      rw [if_pos h1] at e
      omega
  · by_cases e : b = ad_x w / 32
    · subst e
      rw [va_up_self]
      exact ⟨fun _ => ⟨w, Or.inr rfl, h1, h2, h3, rfl⟩, fun _ => rfl⟩
    · rw [va_up_ne df true e, h.2 b]
      refine ⟨fun ⟨v, a, e⟩ => ⟨v, Or.inl a, e⟩, fun ⟨v, a, e2⟩ => ?_⟩
      rcases a with a | a
      · exact ⟨v, a, e2⟩
      · subst a
        exact absurd e2.2.2.2.symm e
/-- the end of a marking: what is marked is just what must be -/
theorem mk_end {rt wd : Nat → Int32} {ob ln kd : Nat → Nat} {qt mk df : Nat → Bool} {P : Int32 → Prop} (h : mk_i ob kd mk df P) (hs : ∀ w, P w → mk_s rt wd ln qt (mk_r rt wd ob ln qt) w) (hc : ∀ w, mk_s rt wd ln qt (fun p => mk p = true) w → P w) :
    (∀ p, mk p = true ↔ mk_r rt wd ob ln qt p) ∧ ∀ b, df b = true ↔ ∃ w, mk_s rt wd ln qt (mk_r rt wd ob ln qt) w ∧ mk_d ob kd w b := by
  have h1 : ∀ p, mk p = true ↔ mk_r rt wd ob ln qt p := fun p => by
    refine ⟨fun hp => ?_, fun hp => hp (fun q => mk q = true) (fun w q hw hq => (h.1 q).mpr ⟨w, hc w hw, hq⟩)⟩
    obtain ⟨w, hw, e⟩ := (h.1 p).mp hp
    exact mk_rc rt wd ob ln qt w p (hs w hw) e
  refine ⟨h1, fun b => ?_⟩
  rw [h.2 b]
  exact ⟨fun ⟨w, a, e⟩ => ⟨w, hs w a, e⟩, fun ⟨w, a, e⟩ => ⟨w, hc w (mk_sm (fun q hq => (h1 q).mpr hq) a), e⟩⟩
/-! what a collection leaves -/
noncomputable def co_mk (rt wd : Nat → Int32) (ob ln : Nat → Nat) (qt : Nat → Bool) : Nat → Bool := fun p => cl_b (mk_r rt wd ob ln qt p)
def co_ob (ob : Nat → Nat) (mk : Nat → Bool) : Nat → Nat := fun i => if mk (ob i - 1) = true then ob i else 0
def co_wd (wd : Nat → Int32) (ob : Nat → Nat) (mk : Nat → Bool) : Nat → Int32 := fun i => if ob i ≠ 0 ∧ mk (ob i - 1) = false then 0 else wd i
def co_br (ob : Nat → Nat) (b : Nat) : Prop := ∀ j, j < 32 → ob (32 * b + j) = 0
noncomputable def co_kd (kd ob : Nat → Nat) : Nat → Nat := fun b => if cl_b (co_br ob b) = true then 0 else kd b
noncomputable def co_df (rt wd : Nat → Int32) (ob ln kd : Nat → Nat) (qt : Nat → Bool) : Nat → Bool := fun b => cl_b (∃ w, mk_s rt wd ln qt (mk_r rt wd ob ln qt) w ∧ mk_d ob kd w b)
theorem co_ob_p {ob : Nat → Nat} {mk : Nat → Bool} {i p : Nat} : co_ob ob mk i = p + 1 ↔ ob i = p + 1 ∧ mk p = true := by
  unfold co_ob
  constructor
  · intro h
    split at h
    · rename_i h1
      rw [h] at h1
      exact ⟨h, h1⟩
    · omega
  · intro h
    rw [h.1, show p + 1 - 1 = p by omega, if_pos h.2]
theorem co_ob_0 {ob : Nat → Nat} {mk : Nat → Bool} {i : Nat} (h : ob i = 0) : co_ob ob mk i = 0 := by
  unfold co_ob
  rw [h]
  split <;> rfl
theorem co_nb {ob : Nat → Nat} {i : Nat} (h : co_br ob (i / 32)) : ob i = 0 := by
  have e := h (i % 32) (by omega)
  rwa [show 32 * (i / 32) + i % 32 = i by omega] at e
theorem co_kd_n {kd ob : Nat → Nat} {i : Nat} (h : ob i ≠ 0) : co_kd kd ob (i / 32) = kd (i / 32) := by
  unfold co_kd
  rw [if_neg]
  intro q
  exact h (co_nb (cl_t.mp q))
theorem co_iv {ob ln kd : Nat → Nat} {wd : Nat → Int32} {oc : Nat} (mk : Nat → Bool) (hv : iv_a ob ln kd wd oc) : iv_a (co_ob ob mk) ln (co_kd kd (co_ob ob mk)) (co_wd wd ob mk) (iv_c (co_ob ob mk)) := by
  obtain ⟨ho, hk, hf, hl, hw, hc⟩ := hv
  refine ⟨?_, ?_, ?_, ?_, ?_, rfl⟩
  · intro i hi p hp
    obtain ⟨hp1, hp2⟩ := co_ob_p.mp hp
    obtain ⟨a1, a2, a3, a4, a5, a6⟩ := ho i hi p hp1
    have n5 : ∀ j, p ≤ j → j < p + ln p → co_ob ob mk j = p + 1 := fun j j1 j2 => co_ob_p.mpr ⟨a5 j j1 j2, hp2⟩
    have kp : co_kd kd (co_ob ob mk) (p / 32) = kd (p / 32) := co_kd_n (by rw [n5 p (Nat.le_refl _) (by omega)]; omega)
    refine ⟨a1, a2, a3, a4, n5, ?_⟩
    rw [kp]
    rcases a6 with ⟨b1, b2, b3⟩ | ⟨b1, b2, b3, b4⟩
    · exact Or.inl ⟨b1, b2, b3⟩
    · refine Or.inr ⟨b1, b2, b3, fun b c1 c2 => ?_⟩
      have e : b = (32 * b) / 32 := by omega
      have := co_kd_n (kd := kd) (ob := co_ob ob mk) (i := 32 * b) (by rw [n5 (32 * b) (by omega) (by omega)]; omega)
      rw [← e] at this
      rw [this]
      exact b4 b c1 c2
  · intro b hb
    unfold co_kd
    split
    · exact Or.inl rfl
    · exact hk b hb
  · intro i hi h0
    by_cases hne : co_ob ob mk i = 0
    · exact hne
    · rw [co_kd_n hne] at h0
      exact co_ob_0 (hf i hi h0)
  · intro i hi h32 h0
    have hnb : ¬ co_br (co_ob ob mk) (i / 32) := by
      intro q
      unfold co_kd at h32
      rw [if_pos (cl_t.mpr q)] at h32
      omega
    have hkd : 32 ≤ kd (i / 32) := by
      unfold co_kd at h32
      rwa [if_neg (fun q => hnb (cl_t.mp q))] at h32
    refine hnb (fun j hj => ?_)
    cases hp : co_ob ob mk (32 * (i / 32) + j) with
    | zero => rfl
    | succ p =>
      obtain ⟨p1, p2⟩ := co_ob_p.mp hp
      have hlt : 32 * (i / 32) + j < 512 := by omega
      have hb : i / 32 = (32 * (i / 32) + j) / 32 := by omega
      have := (iv_big ho hlt (by rw [← hb]; exact hkd) p1 (j := i) hb).1
      rw [co_ob_p.mpr ⟨this, p2⟩] at h0
      omega
  · intro i hi h0
    unfold co_wd
    by_cases h1 : ob i ≠ 0 ∧ mk (ob i - 1) = false
    · rw [if_pos h1]
    · rw [if_neg h1]
      refine hw i hi ?_
      unfold co_ob at h0
      split at h0
      · exact h0
      · rename_i h2
        by_cases h3 : ob i = 0
        · exact h3
        · exact absurd ⟨h3, cl_ft h2⟩ h1
end
section
/-! rows of instructions over natural numbers, booleans and starts -/
section NX
variable {p : Program} {l : Launch} {e : Env} {R : Room} {s : State} {m : MethodId} {args : Array Value} {below : List Frame} {meth : Method} {c : Code} {H : Heap} {locs : List Loc} {cells slots : Nat} {Q : State → Prop}
variable {cc : ByteArray} {pc : Nat} {ls : Array Slot} {rest : List Value} {D : va_G} {cl : List vw_C} {A : Nat → Prop} {a : Nat} {tys : List (ClassId × FieldType)} {ws : va_W} {H0 : Heap}
theorem nx_top {x y : Int32} (h : x = y) (k : W p l e R s m args below meth c H locs cells slots Q (F0 m pc ls (.int y :: rest))) : W p l e R s m args below meth c H locs cells slots Q (F0 m pc ls (.int x :: rest)) := by
  subst h
  exact k
theorem nx_tp2 {x y x2 y2 : Int32} (h : x = y) (h2 : x2 = y2) (k : W p l e R s m args below meth c H locs cells slots Q (F0 m pc ls (.int y :: .int y2 :: rest))) : W p l e R s m args below meth c H locs cells slots Q (F0 m pc ls (.int x :: .int x2 :: rest)) := by
  subst h
  subst h2
  exact k
theorem nx_iadd (hx : p.tables.exec = Jvm.exec) (hb : c.code = cc) {x y : Nat} (hdg : decode cc pc = .ok (.iadd, 1)) (k : W p l e R s m args below meth c H locs cells slots Q (F0 m (pc + 1) ls (.int (nI (x + y)) :: rest))) : W p l e R s m args below meth c H locs cells slots Q (F0 m pc ls (.int (nI y) :: .int (nI x) :: rest)) :=
  lv_iadd hx hb hdg (by rw [nI_add x y]; exact k)
theorem nx_isub (hx : p.tables.exec = Jvm.exec) (hb : c.code = cc) {x y : Nat} (hdg : decode cc pc = .ok (.isub, 1)) (hle : y ≤ x) (k : W p l e R s m args below meth c H locs cells slots Q (F0 m (pc + 1) ls (.int (nI (x - y)) :: rest))) : W p l e R s m args below meth c H locs cells slots Q (F0 m pc ls (.int (nI y) :: .int (nI x) :: rest)) :=
  lv_isub hx hb hdg (by rw [pk_sub hle]; exact k)
theorem nx_imul (hx : p.tables.exec = Jvm.exec) (hb : c.code = cc) {x y : Nat} (hdg : decode cc pc = .ok (.imul, 1)) (k : W p l e R s m args below meth c H locs cells slots Q (F0 m (pc + 1) ls (.int (nI (x * y)) :: rest))) : W p l e R s m args below meth c H locs cells slots Q (F0 m pc ls (.int (nI y) :: .int (nI x) :: rest)) :=
  lv_imul hx hb hdg (by rw [pk_mul x y]; exact k)
theorem nx_idiv (hx : p.tables.exec = Jvm.exec) (hb : c.code = cc) {x y : Nat} (hdg : decode cc pc = .ok (.idiv, 1)) (h1 : x < 2 ^ 31) (h2 : 0 < y) (h3 : y < 2 ^ 31) (k : W p l e R s m args below meth c H locs cells slots Q (F0 m (pc + 1) ls (.int (nI (x / y)) :: rest))) : W p l e R s m args below meth c H locs cells slots Q (F0 m pc ls (.int (nI y) :: .int (nI x) :: rest)) :=
  lv_idiv hx hb hdg (nI_ne0 h2 h3) (by rw [pk_div h1 h2 h3]; exact k)
theorem nx_irem (hx : p.tables.exec = Jvm.exec) (hb : c.code = cc) {x y : Nat} (hdg : decode cc pc = .ok (.irem, 1)) (h1 : x < 2 ^ 31) (h2 : 0 < y) (h3 : y < 2 ^ 31) (k : W p l e R s m args below meth c H locs cells slots Q (F0 m (pc + 1) ls (.int (nI (x % y)) :: rest))) : W p l e R s m args below meth c H locs cells slots Q (F0 m pc ls (.int (nI y) :: .int (nI x) :: rest)) :=
  lv_irem hx hb hdg (nI_ne0 h2 h3) (by rw [pk_rem h1 h2 h3]; exact k)
theorem nx_icmp_eq (hx : p.tables.exec = Jvm.exec) (hb : c.code = cc) {x y : Nat} {off : Int} {tgt : Nat} (hdg : decode cc pc = .ok (.if_icmp .eq off, 3)) (ht : (pc : Int) + off = (tgt : Int)) (h1 : x < 2 ^ 31) (h2 : y < 2 ^ 31)
    (kt : x = y → W p l e R s m args below meth c H locs cells slots Q (F0 m tgt ls rest)) (kf : x ≠ y → W p l e R s m args below meth c H locs cells slots Q (F0 m (pc + 3) ls rest)) : W p l e R s m args below meth c H locs cells slots Q (F0 m pc ls (.int (nI y) :: .int (nI x) :: rest)) :=
  lv_icmp_eq hx hb hdg ht (fun h => kt ((nI_eq h1 h2).mp h)) (fun h => kf (mt (nI_eq h1 h2).mpr h))
theorem nx_icmp_ne (hx : p.tables.exec = Jvm.exec) (hb : c.code = cc) {x y : Nat} {off : Int} {tgt : Nat} (hdg : decode cc pc = .ok (.if_icmp .ne off, 3)) (ht : (pc : Int) + off = (tgt : Int)) (h1 : x < 2 ^ 31) (h2 : y < 2 ^ 31)
    (kt : x ≠ y → W p l e R s m args below meth c H locs cells slots Q (F0 m tgt ls rest)) (kf : x = y → W p l e R s m args below meth c H locs cells slots Q (F0 m (pc + 3) ls rest)) : W p l e R s m args below meth c H locs cells slots Q (F0 m pc ls (.int (nI y) :: .int (nI x) :: rest)) :=
  lv_icmp_ne hx hb hdg ht (fun h => kt (mt (nI_eq h1 h2).mpr h)) (fun h => kf ((nI_eq h1 h2).mp h))
theorem nx_icmp_lt (hx : p.tables.exec = Jvm.exec) (hb : c.code = cc) {x y : Nat} {off : Int} {tgt : Nat} (hdg : decode cc pc = .ok (.if_icmp .lt off, 3)) (ht : (pc : Int) + off = (tgt : Int)) (h1 : x < 2 ^ 31) (h2 : y < 2 ^ 31)
    (kt : x < y → W p l e R s m args below meth c H locs cells slots Q (F0 m tgt ls rest)) (kf : y ≤ x → W p l e R s m args below meth c H locs cells slots Q (F0 m (pc + 3) ls rest)) : W p l e R s m args below meth c H locs cells slots Q (F0 m pc ls (.int (nI y) :: .int (nI x) :: rest)) :=
  lv_icmp_lt hx hb hdg ht (fun h => kt ((nI_ltI h1 h2).mp h)) (fun h => kf (by have q := mt (nI_ltI h1 h2).mpr h; omega))
theorem nx_icmp_ge (hx : p.tables.exec = Jvm.exec) (hb : c.code = cc) {x y : Nat} {off : Int} {tgt : Nat} (hdg : decode cc pc = .ok (.if_icmp .ge off, 3)) (ht : (pc : Int) + off = (tgt : Int)) (h1 : x < 2 ^ 31) (h2 : y < 2 ^ 31)
    (kt : y ≤ x → W p l e R s m args below meth c H locs cells slots Q (F0 m tgt ls rest)) (kf : x < y → W p l e R s m args below meth c H locs cells slots Q (F0 m (pc + 3) ls rest)) : W p l e R s m args below meth c H locs cells slots Q (F0 m pc ls (.int (nI y) :: .int (nI x) :: rest)) :=
  lv_icmp_ge hx hb hdg ht (fun h => kt ((nI_leI h2 h1).mp h)) (fun h => kf (by have q := mt (nI_leI h2 h1).mpr h; omega))
theorem nx_icmp_gt (hx : p.tables.exec = Jvm.exec) (hb : c.code = cc) {x y : Nat} {off : Int} {tgt : Nat} (hdg : decode cc pc = .ok (.if_icmp .gt off, 3)) (ht : (pc : Int) + off = (tgt : Int)) (h1 : x < 2 ^ 31) (h2 : y < 2 ^ 31)
    (kt : y < x → W p l e R s m args below meth c H locs cells slots Q (F0 m tgt ls rest)) (kf : x ≤ y → W p l e R s m args below meth c H locs cells slots Q (F0 m (pc + 3) ls rest)) : W p l e R s m args below meth c H locs cells slots Q (F0 m pc ls (.int (nI y) :: .int (nI x) :: rest)) :=
  lv_icmp_gt hx hb hdg ht (fun h => kt ((nI_ltI h2 h1).mp h)) (fun h => kf (by have q := mt (nI_ltI h2 h1).mpr h; omega))
theorem nx_icmp_le (hx : p.tables.exec = Jvm.exec) (hb : c.code = cc) {x y : Nat} {off : Int} {tgt : Nat} (hdg : decode cc pc = .ok (.if_icmp .le off, 3)) (ht : (pc : Int) + off = (tgt : Int)) (h1 : x < 2 ^ 31) (h2 : y < 2 ^ 31)
    (kt : x ≤ y → W p l e R s m args below meth c H locs cells slots Q (F0 m tgt ls rest)) (kf : y < x → W p l e R s m args below meth c H locs cells slots Q (F0 m (pc + 3) ls rest)) : W p l e R s m args below meth c H locs cells slots Q (F0 m pc ls (.int (nI y) :: .int (nI x) :: rest)) :=
  lv_icmp_le hx hb hdg ht (fun h => kt ((nI_leI h1 h2).mp h)) (fun h => kf (by have q := mt (nI_leI h1 h2).mpr h; omega))
theorem nx_if_eq_b (hx : p.tables.exec = Jvm.exec) (hb : c.code = cc) {b : Bool} {off : Int} {tgt : Nat} (hdg : decode cc pc = .ok (.ifCond .eq off, 3)) (ht : (pc : Int) + off = (tgt : Int))
    (kt : b = false → W p l e R s m args below meth c H locs cells slots Q (F0 m tgt ls rest)) (kf : b = true → W p l e R s m args below meth c H locs cells slots Q (F0 m (pc + 3) ls rest)) : W p l e R s m args below meth c H locs cells slots Q (F0 m pc ls (.int (zb_e b) :: rest)) :=
  lv_if_eq hx hb hdg ht (fun h => kt (zb_z h)) (fun h => kf (zb_nz h))
theorem nx_if_ne_b (hx : p.tables.exec = Jvm.exec) (hb : c.code = cc) {b : Bool} {off : Int} {tgt : Nat} (hdg : decode cc pc = .ok (.ifCond .ne off, 3)) (ht : (pc : Int) + off = (tgt : Int))
    (kt : b = true → W p l e R s m args below meth c H locs cells slots Q (F0 m tgt ls rest)) (kf : b = false → W p l e R s m args below meth c H locs cells slots Q (F0 m (pc + 3) ls rest)) : W p l e R s m args below meth c H locs cells slots Q (F0 m pc ls (.int (zb_e b) :: rest)) :=
  lv_if_ne hx hb hdg ht (fun h => kt (zb_nz h)) (fun h => kf (zb_z h))
theorem nx_if_eq (hx : p.tables.exec = Jvm.exec) (hb : c.code = cc) {x : Nat} {off : Int} {tgt : Nat} (hdg : decode cc pc = .ok (.ifCond .eq off, 3)) (ht : (pc : Int) + off = (tgt : Int)) (h1 : x < 2 ^ 31)
    (kt : x = 0 → W p l e R s m args below meth c H locs cells slots Q (F0 m tgt ls rest)) (kf : x ≠ 0 → W p l e R s m args below meth c H locs cells slots Q (F0 m (pc + 3) ls rest)) : W p l e R s m args below meth c H locs cells slots Q (F0 m pc ls (.int (nI x) :: rest)) :=
  lv_if_eq hx hb hdg ht (fun h => kt ((nI_eq h1 (by decide)).mp (by rw [h]; rfl))) (fun h => kf (fun q => h (by rw [q]; rfl)))
theorem nx_if_ne (hx : p.tables.exec = Jvm.exec) (hb : c.code = cc) {x : Nat} {off : Int} {tgt : Nat} (hdg : decode cc pc = .ok (.ifCond .ne off, 3)) (ht : (pc : Int) + off = (tgt : Int)) (h1 : x < 2 ^ 31)
    (kt : x ≠ 0 → W p l e R s m args below meth c H locs cells slots Q (F0 m tgt ls rest)) (kf : x = 0 → W p l e R s m args below meth c H locs cells slots Q (F0 m (pc + 3) ls rest)) : W p l e R s m args below meth c H locs cells slots Q (F0 m pc ls (.int (nI x) :: rest)) :=
  lv_if_ne hx hb hdg ht (fun h => kt (fun q => h (by rw [q]; rfl))) (fun h => kf ((nI_eq h1 (by decide)).mp (by rw [h]; rfl)))
theorem nx_if_le (hx : p.tables.exec = Jvm.exec) (hb : c.code = cc) {x : Nat} {off : Int} {tgt : Nat} (hdg : decode cc pc = .ok (.ifCond .le off, 3)) (ht : (pc : Int) + off = (tgt : Int)) (h1 : x < 2 ^ 31)
    (kt : x = 0 → W p l e R s m args below meth c H locs cells slots Q (F0 m tgt ls rest)) (kf : x ≠ 0 → W p l e R s m args below meth c H locs cells slots Q (F0 m (pc + 3) ls rest)) : W p l e R s m args below meth c H locs cells slots Q (F0 m pc ls (.int (nI x) :: rest)) :=
  lv_if_le hx hb hdg ht (fun h => kt (Nat.eq_zero_of_not_pos (fun q => nI_nle q h1 h))) (fun h => kf (fun q => h (by rw [q]; decide)))
theorem nx_up {α : Type} (enc : α → Int32) (g : Nat → α) (i : Nat) (v : α) : upd (fun j => enc (g j)) i (enc v) = fun j => enc (va_up g i v j) := by
  funext j
  unfold upd va_up
  split <;> rfl
theorem nx_iald {α : Type} (hx : p.tables.exec = Jvm.exec) (hb : c.code = cc) (hK : va_K D cl tys s) (hP : va_P D cl ws H) (q0 t0 : Nat) {cA : ClassId} {n : Nat} (enc : α → Int32) (g : Nat → α) (ha : ws[q0]? = some (a, .inl (cA, n, .inl (fun j => enc (g j))))) (ht : tys[t0]? = some (cA, .int)) (i : Nat) (hi : i < n) (hn : n < 2 ^ 31) (hdg : decode cc pc = .ok (.iaload, 1))
    (k : W p l e R s m args below meth c H locs cells slots Q (F0 m (pc + 1) ls (.int (enc (g i)) :: rest))) : W p l e R s m args below meth c H locs cells slots Q (F0 m pc ls (.int (nI i) :: .ref a :: rest)) :=
  va_iald hx hb hK hP q0 t0 ha ht (vp_in_nI hi hn) hdg (by rw [nI_clamp (Nat.lt_trans hi hn)]; exact k)
theorem nx_iast {α : Type} (hx : p.tables.exec = Jvm.exec) (hb : c.code = cc) (hK : va_K D cl tys s) (hP : va_P D cl ws H) (hD : va_D A ws) (hS : va_S A H0 H locs) (q0 t0 : Nat) {cA : ClassId} {n : Nat} (enc : α → Int32) (g : Nat → α) (ha : ws[q0]? = some (a, .inl (cA, n, .inl (fun j => enc (g j))))) (ht : tys[t0]? = some (cA, .int)) (i : Nat) (v : α) (hi : i < n) (hn : n < 2 ^ 31) (hdg : decode cc pc = .ok (.iastore, 1))
    (k : ∀ (H1 : Heap) (locs1 : List Loc), va_P D cl (ws.set q0 (a, .inl (cA, n, .inl (fun j => enc (va_up g i v j))))) H1 → va_D A (ws.set q0 (a, .inl (cA, n, .inl (fun j => enc (va_up g i v j))))) → va_S A H0 H1 locs1 → W p l e R s m args below meth c H1 locs1 cells slots Q (F0 m (pc + 1) ls rest)) : W p l e R s m args below meth c H locs cells slots Q (F0 m pc ls (.int (enc v) :: .int (nI i) :: .ref a :: rest)) := by
  refine va_iast hx hb hK hP hD hS q0 t0 ha ht (vp_in_nI hi hn) hdg (fun H1 locs1 g1 g2 g3 => ?_)
  rw [nI_clamp (Nat.lt_trans hi hn), nx_up] at g1 g2
  exact k H1 locs1 g1 g2 g3
theorem nx_zald {α : Type} (hx : p.tables.exec = Jvm.exec) (hb : c.code = cc) (hK : va_K D cl tys s) (hP : va_P D cl ws H) (q0 t0 : Nat) {cA : ClassId} {n : Nat} (enc : α → Int32) (g : Nat → α) (ha : ws[q0]? = some (a, .inl (cA, n, .inl (fun j => enc (g j))))) (ht : tys[t0]? = some (cA, .boolean)) (i : Nat) (hi : i < n) (hn : n < 2 ^ 31) (hdg : decode cc pc = .ok (.baload, 1))
    (k : W p l e R s m args below meth c H locs cells slots Q (F0 m (pc + 1) ls (.int (enc (g i)) :: rest))) : W p l e R s m args below meth c H locs cells slots Q (F0 m pc ls (.int (nI i) :: .ref a :: rest)) :=
  va_zald hx hb hK hP q0 t0 ha ht (vp_in_nI hi hn) hdg (by rw [nI_clamp (Nat.lt_trans hi hn)]; exact k)
theorem nx_narb (b : Bool) : vp_nar .boolean (zb_e b) = zb_e b := by
  cases b <;> decide +kernel
theorem nx_zast (hx : p.tables.exec = Jvm.exec) (hb : c.code = cc) (hK : va_K D cl tys s) (hP : va_P D cl ws H) (hD : va_D A ws) (hS : va_S A H0 H locs) (q0 t0 : Nat) {cA : ClassId} {n : Nat} (g : Nat → Bool) (ha : ws[q0]? = some (a, .inl (cA, n, .inl (fun j => zb_e (g j))))) (ht : tys[t0]? = some (cA, .boolean)) (i : Nat) (v : Bool) (hi : i < n) (hn : n < 2 ^ 31) (hdg : decode cc pc = .ok (.bastore, 1))
    (k : ∀ (H1 : Heap) (locs1 : List Loc), va_P D cl (ws.set q0 (a, .inl (cA, n, .inl (fun j => zb_e (va_up g i v j))))) H1 → va_D A (ws.set q0 (a, .inl (cA, n, .inl (fun j => zb_e (va_up g i v j))))) → va_S A H0 H1 locs1 → W p l e R s m args below meth c H1 locs1 cells slots Q (F0 m (pc + 1) ls rest)) : W p l e R s m args below meth c H locs cells slots Q (F0 m pc ls (.int (zb_e v) :: .int (nI i) :: .ref a :: rest)) := by
  refine va_zast hx hb hK hP hD hS q0 t0 ha ht (vp_in_nI hi hn) hdg (fun H1 locs1 g1 g2 g3 => ?_)
  rw [nI_clamp (Nat.lt_trans hi hn), nx_narb, nx_up] at g1 g2
  exact k H1 locs1 g1 g2 g3
theorem nx_inc1 (i : Nat) : nI i + Int32.ofInt 1 = nI (i + 1) := by
  rw [show Int32.ofInt 1 = nI 1 from by decide +kernel, nI_add]
theorem nx_inc2 (i : Nat) : nI i + Int32.ofInt 2 = nI (i + 2) := by
  rw [show Int32.ofInt 2 = nI 2 from by decide +kernel, nI_add]
theorem nx_inc3 (i : Nat) : nI i + Int32.ofInt 3 = nI (i + 3) := by
  rw [show Int32.ofInt 3 = nI 3 from by decide +kernel, nI_add]
theorem nx_rald (hx : p.tables.exec = Jvm.exec) (hb : c.code = cc) (hK : va_K D cl tys s) (hP : va_P D cl ws H) (q0 t0 : Nat) {cA : ClassId} {n : Nat} (g : Nat → Int32) (ha : ws[q0]? = some (a, .inl (cA, n, .inl g))) (ht : tys[t0]? = some (cA, .int)) (i : Nat) (hi : i < n) (hn : n < 2 ^ 31) (hdg : decode cc pc = .ok (.iaload, 1))
    (k : W p l e R s m args below meth c H locs cells slots Q (F0 m (pc + 1) ls (.int (g i) :: rest))) : W p l e R s m args below meth c H locs cells slots Q (F0 m pc ls (.int (nI i) :: .ref a :: rest)) :=
  va_iald hx hb hK hP q0 t0 ha ht (vp_in_nI hi hn) hdg (by rw [nI_clamp (Nat.lt_trans hi hn)]; exact k)
theorem nx_rast (hx : p.tables.exec = Jvm.exec) (hb : c.code = cc) (hK : va_K D cl tys s) (hP : va_P D cl ws H) (hD : va_D A ws) (hS : va_S A H0 H locs) (q0 t0 : Nat) {cA : ClassId} {n : Nat} (g : Nat → Int32) (ha : ws[q0]? = some (a, .inl (cA, n, .inl g))) (ht : tys[t0]? = some (cA, .int)) (i : Nat) (v : Int32) (hi : i < n) (hn : n < 2 ^ 31) (hdg : decode cc pc = .ok (.iastore, 1))
    (k : ∀ (H1 : Heap) (locs1 : List Loc), va_P D cl (ws.set q0 (a, .inl (cA, n, .inl (va_up g i v)))) H1 → va_D A (ws.set q0 (a, .inl (cA, n, .inl (va_up g i v)))) → va_S A H0 H1 locs1 → W p l e R s m args below meth c H1 locs1 cells slots Q (F0 m (pc + 1) ls rest)) : W p l e R s m args below meth c H locs cells slots Q (F0 m pc ls (.int v :: .int (nI i) :: .ref a :: rest)) := by
  refine va_iast hx hb hK hP hD hS q0 t0 ha ht (vp_in_nI hi hn) hdg (fun H1 locs1 g1 g2 g3 => ?_)
  rw [nI_clamp (Nat.lt_trans hi hn)] at g1 g2
  exact k H1 locs1 g1 g2 g3
end NX
end
section
/-! contracts that end in a throw; calls of such methods -/
section XT
variable {l : Launch}
/-- it threw; nothing has moved but the slots L and what is new -/
def xt_E (first : State) (o : Outcome) (t : State) (L : List Loc) (k n : Nat) : Prop := (∃ x, o = .threw x) ∧ first.WarmedH t.vm ∧ first.sameButNew ({ t with vm := first.vm } : State) L k n
def xt_M (l : Launch) (y : MethodName) (ws : List Cond) (rm : Room) (Pc : Array Value → State → Prop) (Qc : Array Value → State → Outcome → State → Prop) (mc ms : Nat) (free : Addr → Prop) : Prop :=
  MetFree l y (headSpec ws rm) Pc (fun _ _ _ _ _ => True) (fun a st o t => Qc a st o t ∧ ∃ L, xt_E st o t L mc ms ∧ ∀ q ∈ L, free q.base)
def xt_Q (below : List Frame) (Qc : Array Value → State → Outcome → State → Prop) (a : Array Value) (s : State) (mc ms : Nat) (free : Addr → Prop) : State → Prop := fun t =>
  ∃ o, t.status = .running ∧ Ended t below o ∧ Qc a s o t ∧ ∃ L, xt_E s o t L mc ms ∧ ∀ q ∈ L, free q.base
theorem xt_ofW {y : MethodName} {ws ws' : List Cond} {rm : Room} {Pc : Array Value → State → Prop} {Qc : Array Value → State → Outcome → State → Prop} {mc ms : Nat} {free : Addr → Prop} {cc : ByteArray} {maxL : Nat} {ret : Option FieldType}
    (hy : plainName y.cls = true) (hw : ws = Cond.code y cc maxL ret :: ws')
    (body : ∀ p e s m args below meth c s₁, BodyLoose p l y (headSpec ws rm) cc maxL ret e s m args below meth c s₁ → c.maxLocals = maxL → Pc args s →
      W p l e (headSpec ws rm).room s m args below meth c s.heap [] 0 0 (xt_Q below Qc args s mc ms free) (entryFrame m args maxL)) : xt_M l y ws rm Pc Qc mc ms free := by
  refine MetFree.of_bodyS (code := cc) (maxLocals := maxL) (ret := ret) hy ?_ ?_
  · intro args s m h hn
    obtain ⟨meth, c, h1, h2, h3, h4, h5, h6, -, -⟩ := Cond.code_spec hn (atoms_spec (ws := ws) h _ (by rw [hw]; exact List.mem_cons_self))
    exact ⟨meth, c, h1, h2, h3, h4, h5, h6⟩
  · intro p e s m args below meth c s₁ B hml hP _
    have hh0 : s₁.heap = s.heap := by rw [B.state]; rfl
    obtain ⟨t, a1, o, b1, b2, b3⟩ := body p e s m args below meth c s₁ B hml hP s₁ hh0 (Stand.of_body B)
    exact ⟨t, o, a1, b1, b2, ⟨b3.1, b3.2⟩⟩
end XT
section XU
variable {p : Program} {l : Launch} {e : Env} {R : Room} {s : State} {m : MethodId} {args : Array Value} {below : List Frame} {meth : Method} {c : Code} {H : Heap} {locs : List Loc} {cells slots : Nat} {Q : State → Prop}
theorem xt_none {x : Array ExceptionTableEntry} {pc : Nat} (h : x.isEmpty = true) : ∀ y ∈ x.toList, covers y pc = false := by
  intro y hy
  have e : x = #[] := by simpa using h
  rw [e] at hy
  cases hy
theorem xt_athrow {cc : ByteArray} {Qc : Array Value → State → Outcome → State → Prop} {free : Addr → Prop} {a : Addr} (hexec : p.tables.exec = Jvm.exec) (hb : c.code = cc) (hno : c.exceptionTable.isEmpty = true)
    (hq : ∀ t : State, t.heap = H → s.WarmedH t.vm → Qc args s (.threw a) t) (hf : ∀ q ∈ locs, free q.base)
    {pc : Nat} {ls : Array Slot} {rest : List Value} (hdg : decode cc pc = .ok (.athrow, 1)) (hlocks : meth.locks = false) : W p l e R s m args below meth c H locs cells slots (xt_Q below Qc args s cells slots free) (F0 m pc ls (.ref a :: rest)) := by
  intro T hT X
  obtain ⟨hwalk, hrun, hended, hW, hsame⟩ := X.athrowLeaves hexec (g := F0 m pc ls (.ref a :: rest)) rfl rfl rfl (xt_none hno) (a := a) (rest := rest) rfl (by rw [hb]; exact hdg) hlocks
  exact ⟨_, hwalk, .threw a, hrun, hended, hq _ hT hW, locs, ⟨⟨a, rfl⟩, hW, hsame⟩, hf⟩
/-- a call that throws -/
def xt_Run (p : Program) (l : Launch) (e : Env) (R : Room) (s : State) (m : MethodId) (args : Array Value) (below : List Frame) (meth : Method) (c : Code) (H : Heap) (locs : List Loc) (cells slots mc ms : Nat) (g : JFrame) (rest : List Value) (Qa : State → Outcome → State → Prop) (free : Addr → Prop) : Prop :=
  ∀ T : State, T.heap = H → Stand p l e R s m args below meth c T locs cells slots → ∃ (x : Addr) (st₀ t T' : State) (L : List Loc), st₀.heap = H ∧ Stand p l e R s m args below meth c T' (locs ++ L) (cells + mc) (slots + ms) ∧ (∀ q ∈ L, free q.base) ∧ T'.heap = t.heap ∧ T'.vm = t.vm ∧ Qa st₀ (.threw x) t ∧
    Steps p.tables e below (T.setTop g) ((T'.setTop { g with stack := rest }).pushFrame (.throwing x))
/-- what comes of the invocation itself -/
theorem xt_back {y : MethodName} {ws : List Cond} {rm : Room} {Pc : Array Value → State → Prop} {Qc : Array Value → State → Outcome → State → Prop} {mc ms : Nat} {free : Addr → Prop} {bytes : ByteArray} {maxL len : Nat} {ret : Option FieldType}
    (hM : xt_M l y ws rm Pc Qc mc ms free) (hblind : FrameBlind Pc) (hrc : rm.cells = mc) (hrs : rm.slots = ms) (hfr : rm.frames + 1 ≤ R.frames) (hlo : 8 + (maxL + 11) + rm.locals ≤ R.locals)
    (hws : ∀ w ∈ ws, ∀ (a' : Array Value) (U : State), s.WarmedH U.vm → w.before a' U = true) (hcode : Cond.code y bytes maxL ret ∈ ws) (hinit : ∀ (a' : Array Value) (U : State), s.WarmedH U.vm → (Cond.initialized y.cls).before a' U = true)
    {U : State} (X : Stand p l e R s m args below meth c U locs cells slots) {g : JFrame} {ig : Instr} {mk : MethodId} {a : Array Value} (hg : g.method = m) (hsize : g.locals.size = c.maxLocals) (hdg : decode c.code g.pc = .ok (ig, len))
    (hW : 2 * g.monitorRoom + (g.stack.map fun v => v.category).sum ≤ 8) (hn : U.methodNamed? y = some mk) (h4 : cells + mc ≤ R.cells) (h5 : slots + ms ≤ R.slots) (hPc : Pc a U) :
    ∃ (x : Addr) (t T' : State) (L : List Loc), Stand p l e R s m args below meth c T' (locs ++ L) (cells + mc) (slots + ms) ∧ (∀ q ∈ L, free q.base) ∧ T'.heap = t.heap ∧ T'.vm = t.vm ∧ Qc a (U.calling g mk a) (.threw x) t ∧
      Steps p.tables e below (doInvoke e (U.setTop g) [] mk a).1 ((T'.setTop g).pushFrame (.throwing x)) := by
  subst hrc
  subst hrs
  have h1 : (headSpec ws rm).pre.before a U = true := atoms_intro fun w hw => hws w hw _ _ X.warmed
  have h2 : (Cond.code y bytes maxL ret).before a U = true := hws _ hcode _ _ X.warmed
  have h3 := hinit a U X.warmed
  obtain ⟨methY, cY, hmY, hcY, -, hlY, -, -, -, -⟩ := Cond.code_spec hn h2
  obtain ⟨kY, hkY, -⟩ := className_of_methodNamed hn
  have hinitY : kY.init = .initialized := Cond.initialized_spec (findClass_of_methodNamed hn) hkY h3
  have h : At U g.method c below := by rw [hg]; exact X.here
  have happ : (headSpec ws rm).appliesLoose y e.platform (U.calling g mk a) = true :=
    Spec.appliesLoose_calling (g := g) h hdg hn hkY hinitY (X.room_calling (g := g) (R' := rm) hsize hmY hcY hfr (by rw [hlY]; omega) h4 h5) h1
  obtain ⟨mid, hmid⟩ := h.above
  have hfr : (U.setTop g).frames = (.java g :: mid) ++ below := by rw [State.frames_setTop' g h.top, hmid]; rfl
  obtain ⟨o, s₂, hsteps, -, hend, hq⟩ := Steps.callFree hM p X.admits X.cas X.clock (acts := []) hfr happ (hblind _ _ _ _ hPc) trivial
  have hq' : Qc a (U.calling g mk a) o s₂ ∧ ∃ L, xt_E (U.calling g mk a) o s₂ L rm.cells rm.slots ∧ ∀ q ∈ L, free q.base := hq
  obtain ⟨hq1, L, hfe, hL⟩ := hq'
  rw [State.frames_setTop' g h.top] at hend
  obtain ⟨⟨v, rfl⟩, hW₂, e2, q2, q3, q4, q5, q6⟩ := id hfe
  have e3 : s₂ = ({ (U.calling g mk a).setFrames s₂.frames with heap := s₂.heap, slotsUsed := s₂.slotsUsed } : State).setVm s₂.vm := by
    have : s₂ = ({ s₂ with vm := (U.calling g mk a).vm } : State).setVm s₂.vm := rfl
    rw [e2] at this
    exact this
  have hf₂ : s₂.frames = .throwing v :: .java g :: U.frames.tail := hend
  have hW' : U.WarmedH s₂.vm := hW₂
  obtain ⟨g₀, hg0⟩ := Option.isSome_iff_exists.mp h.top
  obtain ⟨r, hr⟩ := State.topJava?_eq_some.mp hg0
  have hs₂ : s₂ = ((({ U with heap := s₂.heap, slotsUsed := s₂.slotsUsed } : State).setVm s₂.vm).setTop g).pushFrame (.throwing v) := by
    have hr' : (({ U with heap := s₂.heap, slotsUsed := s₂.slotsUsed } : State).setVm s₂.vm).frames = .java g₀ :: r := hr
    refine e3.trans ?_
    rw [hf₂, State.calling_eq h.top, State.setFrames_setFrames, State.pushFrame, State.frames_setTop _ hr', State.setTop_of_frames _ hr', State.setFrames_setFrames, hr]
    rfl
  have hsame : U.sameButNew ({ U with heap := s₂.heap, slotsUsed := s₂.slotsUsed } : State) L rm.cells rm.slots := by
    refine ⟨?_, q2, q3, q4, q5, q6⟩
    obtain ⟨t, ht, -⟩ := State.frames_cons hr
    show ({ U with heap := s₂.heap, slotsUsed := s₂.slotsUsed } : State) = { U.setFrames U.frames with heap := s₂.heap, slotsUsed := s₂.slotsUsed }
    rw [State.setFrames_self ht]
  subst hg
  refine ⟨v, s₂, (({ U with heap := s₂.heap, slotsUsed := s₂.slotsUsed } : State).setVm s₂.vm), L,
    ⟨X.admits, X.cas, X.clock, X.frames, X.room, X.hears, X.method, X.code, (X.here.setHeapUsed s₂.heap s₂.slotsUsed).setVm hW'.alike, X.tail, State.WarmedH.trans X.warmed hW', X.limits, X.bytes, X.same.trans (hsame.setVm s.vm)⟩,
    hL, rfl, rfl, hq1, ?_⟩
  rw [← hs₂]
  exact hsteps
/-- a static method that throws is called -/
theorem xt_runS {y : MethodName} {bytes cc : ByteArray} {maxL nL mc ms n index : Nat} {ret : Option FieldType} {ws : List Cond} {rm : Room} {Pc : Array Value → State → Prop} {Qc : Array Value → State → Outcome → State → Prop} {free : Addr → Prop} {Ts : List Cond} {own : String} {As rest : List Value} {g : JFrame}
    (S : CallFix p m c cc nL s args Ts own) (hM : xt_M l y ws rm Pc Qc mc ms free) (cw : CallB R s args own index y bytes maxL ret ws rm mc ms n ∧ (Cond.static y).before args s = true) (hp : PreS s H Pc As)
    (hg : g.method = m) (hn : As.length = n) (hsize : g.locals.size = nL) (hstack : g.stack = As.reverse ++ rest) (hW : 2 * g.monitorRoom + (rest.map fun v => v.category).sum ≤ 8) (hdg : decode cc g.pc = .ok (.invokestatic index, 3)) (hf : cells + mc ≤ R.cells ∧ slots + ms ≤ R.slots) :
    xt_Run p l e R s m args below meth c H locs cells slots mc ms g rest (Qc As.toArray) free := by
  obtain ⟨⟨hrc, hrs, hfr, hlo, hws, hcw, hcode, hini, hy, hlen, hl⟩, hstt⟩ := cw
  obtain ⟨hx, hb, hml, ho, -⟩ := S
  intro T hT X
  obtain ⟨mk, hnamed⟩ := Cond.code_named hcode
  obtain ⟨methM, cM, hmethM, -, -, -, -, -, -, hsigM⟩ := Cond.code_spec hnamed hcode
  have hstatic : methM.isStatic = true := Cond.static_spec hnamed hmethM hstt
  obtain ⟨kP, hkP, -⟩ := className_of_methodNamed hnamed
  have hinitP : kP.init = .initialized := Cond.initialized_spec (findClass_of_methodNamed hnamed) hkP hini
  obtain ⟨vm₁, X₁, hstep₁⟩ := X.invokestatic hx ho hl hnamed hmethM hstatic hkP hinitP hy (g := g) hg (argsL := As) (rest := rest) (hn.trans (hlen _ hsigM)) hstack (by rw [hb]; exact hdg)
  obtain ⟨x, t, T', L, X', hL, e1, e2, hq, st⟩ := xt_back (len := 3) (g := { g with stack := rest }) (ig := .invokestatic index) (mk := mk) (a := As.toArray) hM hp.1 hrc hrs hfr hlo hws hcw (fun a' U hW => word_at hW (Or.inl (by first | rfl | simp [Cond.onTables, Cond.keeps, Cond.steady])) hini) X₁ hg (hsize.trans hml.symm) (by rw [hb]; exact hdg) hW (X₁.named hnamed) hf.1 hf.2 (hp.2 (T.setVm vm₁) hT X₁.warmed)
  refine ⟨x, _, t, T', L, ?_, X', hL, e1, e2, hq, hstep₁ _ fun acts => ?_⟩
  · exact hT
  · rw [doInvoke_state]
    exact st
/-- an instance method that throws is called -/
theorem xt_runV {y : MethodName} {bytes cc : ByteArray} {maxL nL mc ms n index : Nat} {ret : Option FieldType} {ws : List Cond} {rm : Room} {Pc : Array Value → State → Prop} {Qc : Array Value → State → Outcome → State → Prop} {free : Addr → Prop} {Ts : List Cond} {own C : String} {b : Addr} {As rest : List Value} {g : JFrame}
    (S : CallFix p m c cc nL s args Ts own) (hM : xt_M l y ws rm Pc Qc mc ms free) (cw : CallW R s args own C index y bytes maxL ret ws rm mc ms n) (hp : PreV s H C b Pc As)
    (hg : g.method = m) (hn : As.length = n) (hsize : g.locals.size = nL) (hstack : g.stack = As.reverse ++ .ref b :: rest) (hW : 2 * g.monitorRoom + (rest.map fun v => v.category).sum ≤ 8) (hdg : decode cc g.pc = .ok (.invokevirtual index, 3)) (hf : cells + mc ≤ R.cells ∧ slots + ms ≤ R.slots) :
    xt_Run p l e R s m args below meth c H locs cells slots mc ms g rest (Qc (Value.ref b :: As).toArray) free := by
  obtain ⟨⟨hrc, hrs, hfr, hlo, hws, hcw, hcode, hini, hy, hlen, hl⟩, hin, hse⟩ := cw
  obtain ⟨hx, hb, hml, ho, -⟩ := S
  obtain ⟨hbl, ⟨cellB, hcB, hoB, hclB⟩, hPc⟩ := hp
  intro T hT X
  obtain ⟨mk, methM, hnamed, hmethM, hstM, habM⟩ := Cond.instanceMethod_spec hin
  obtain ⟨methM', cM, hmethM', -, -, -, -, -, -, hsigM⟩ := Cond.code_spec hnamed hcode
  cases hmethM.symm.trans hmethM'
  obtain ⟨c2, r2, m2, q1, q2, q3, q4, kP, hkP, hkPi⟩ := Cond.selects_spec hse
  cases hclB.symm.trans q1
  cases (State.methodFound?_of_named hnamed hy).symm.trans q2
  cases hnamed.symm.trans q3
  have hselP : selectMethod e.platform s.vm cellB.cls mk = .method mk := by rw [Launch.admits_selectMethod X.admits]; exact q4
  obtain ⟨vm₁, X₁, hstep₁⟩ := X.invokevirtual hx ho hl hnamed hmethM hstM hkP hkPi hy (a := b) (cell := cellB) (by rw [hT]; exact hcB)
    (fun z h => by rw [h] at hoB; cases hoB) hselP hmethM habM hkP hkPi (g := g) hg (argsL := As) (rest := rest) (hn.trans (hlen _ hsigM)) hstack (by rw [hb]; exact hdg)
  obtain ⟨x, t, T', L, X', hL, e1, e2, hq, st⟩ := xt_back (len := 3) (g := { g with stack := rest }) (ig := .invokevirtual index) (mk := mk) (a := (Value.ref b :: As).toArray) hM hbl hrc hrs hfr hlo hws hcw (fun a' U hW => word_at hW (Or.inl (by first | rfl | simp [Cond.onTables, Cond.keeps, Cond.steady])) hini) X₁ hg (hsize.trans hml.symm) (by rw [hb]; exact hdg) hW (X₁.named hnamed) hf.1 hf.2 (hPc (T.setVm vm₁) hT X₁.warmed)
  refine ⟨x, _, t, T', L, ?_, X', hL, e1, e2, hq, hstep₁ _ fun acts => ?_⟩
  · exact hT
  · rw [doInvoke_state]
    exact st
/-- a throw that goes on -/
theorem xt_on {mc ms : Nat} {pc : Nat} {ls : Array Slot} {st0 rest : List Value} {Qa : State → Outcome → State → Prop} {Qc : Array Value → State → Outcome → State → Prop} {free fr2 : Addr → Prop} (hr : xt_Run p l e R s m args below meth c H locs cells slots mc ms (F0 m pc ls st0) rest Qa free) (hno : c.exceptionTable.isEmpty = true)
    (hq : ∀ (x : Addr) (st₀ t t' : State), st₀.heap = H → Qa st₀ (.threw x) t → t'.heap = t.heap → s.WarmedH t'.vm → s.vm.Alike t.vm → Qc args s (.threw x) t') (hf : ∀ q ∈ locs, fr2 q.base) (hfr : ∀ q, free q → fr2 q) (hlocks : meth.locks = false) :
    W p l e R s m args below meth c H locs cells slots (xt_Q below Qc args s (cells + mc) (slots + ms) fr2) (F0 m pc ls st0) := by
  intro T hT X
  obtain ⟨x, st₀, t, T', L, h0, X', hL, e1, e2, hqa, st⟩ := hr T hT X
  obtain ⟨hwalk, hrun, hended, hW, hsame⟩ := X'.leaveThrown x (g := F0 m pc ls rest) rfl rfl rfl (xt_none hno) hlocks
  exact ⟨_, st.trans hwalk, .threw x, hrun, hended, hq x st₀ t _ h0 hqa e1 hW (by rw [← e2]; exact X'.warmed.alike), locs ++ L, ⟨⟨x, rfl⟩, hW, hsame⟩, fun q hq => by
    rcases List.mem_append.mp hq with h | h
    · exact hf q h
    · exact hfr _ (hL q h)⟩
end XU
end
section
/-! giving up, object by object -/
def gu_ob (ob : Nat → Nat) (mk : Nat → Bool) (n : Nat) : Nat → Nat := fun i => if ob i ≠ 0 ∧ ob i - 1 < n ∧ mk (ob i - 1) = false then 0 else ob i
def gu_wd (wd : Nat → Int32) (ob : Nat → Nat) (mk : Nat → Bool) (n : Nat) : Nat → Int32 := fun i => if ob i ≠ 0 ∧ ob i - 1 < n ∧ mk (ob i - 1) = false then 0 else wd i
theorem gu_0 (ob : Nat → Nat) (mk : Nat → Bool) (i : Nat) : gu_ob ob mk 0 i = ob i := by
  unfold gu_ob
  rw [if_neg (by omega)]
theorem gu_w0 (wd : Nat → Int32) (ob : Nat → Nat) (mk : Nat → Bool) (i : Nat) : gu_wd wd ob mk 0 i = wd i := by
  unfold gu_wd
  rw [if_neg (by omega)]
theorem gu_at {ob : Nat → Nat} {mk : Nat → Bool} {n : Nat} : gu_ob ob mk n n = n + 1 ↔ ob n = n + 1 := by
  unfold gu_ob
  split
  · rename_i h
    constructor
    · intro q; omega
    · intro q; omega
  · exact Iff.rfl
/-- nothing is given up at n -/
theorem gu_no {ob ln kd : Nat → Nat} (ho : iv_o ob ln kd) {mk : Nat → Bool} {n : Nat} (h : ¬ (ob n = n + 1 ∧ mk n = false)) {i : Nat} (hi : i < 512) : (ob i ≠ 0 ∧ ob i - 1 < n + 1 ∧ mk (ob i - 1) = false) ↔ (ob i ≠ 0 ∧ ob i - 1 < n ∧ mk (ob i - 1) = false) := by
  constructor
  · intro ⟨q1, q2, q3⟩
    refine ⟨q1, ?_, q3⟩
    by_cases e : ob i - 1 = n
    · exfalso
      have hp := (iv_st ho hi (p := n) (by omega)).2.1
      rw [e] at q3
      exact h ⟨hp, q3⟩
    · omega
  · intro ⟨q1, q2, q3⟩
    exact ⟨q1, by omega, q3⟩
theorem gu_nob {ob ln kd : Nat → Nat} (ho : iv_o ob ln kd) {mk : Nat → Bool} {n : Nat} (h : ¬ (ob n = n + 1 ∧ mk n = false)) {i : Nat} (hi : i < 512) : gu_ob ob mk (n + 1) i = gu_ob ob mk n i := by
  unfold gu_ob
  have e := gu_no ho h hi
  by_cases q : ob i ≠ 0 ∧ ob i - 1 < n ∧ mk (ob i - 1) = false
  · rw [if_pos q, if_pos (e.mpr q)]
  · rw [if_neg q, if_neg (fun z => q (e.mp z))]
theorem gu_nwd {ob ln kd : Nat → Nat} {wd : Nat → Int32} (ho : iv_o ob ln kd) {mk : Nat → Bool} {n : Nat} (h : ¬ (ob n = n + 1 ∧ mk n = false)) {i : Nat} (hi : i < 512) : gu_wd wd ob mk (n + 1) i = gu_wd wd ob mk n i := by
  unfold gu_wd
  have e := gu_no ho h hi
  by_cases q : ob i ≠ 0 ∧ ob i - 1 < n ∧ mk (ob i - 1) = false
  · rw [if_pos q, if_pos (e.mpr q)]
  · rw [if_neg q, if_neg (fun z => q (e.mp z))]
/-- the object at n is given up -/
theorem gu_yes {ob ln kd : Nat → Nat} (ho : iv_o ob ln kd) {mk : Nat → Bool} {n : Nat} (hn : n < 512) (h1 : ob n = n + 1) (h2 : mk n = false) {i : Nat} (hi : i < 512) : (ob i ≠ 0 ∧ ob i - 1 < n + 1 ∧ mk (ob i - 1) = false) ↔ ((n ≤ i ∧ i < n + ln n) ∨ (ob i ≠ 0 ∧ ob i - 1 < n ∧ mk (ob i - 1) = false)) := by
  have h5 := (ho n hn n h1).2.2.2.2.1
  constructor
  · intro ⟨q1, q2, q3⟩
    by_cases e : ob i - 1 = n
    · have := ho i hi n (by omega)
      exact Or.inl ⟨this.1, this.2.1⟩
    · exact Or.inr ⟨q1, by omega, q3⟩
  · intro q
    rcases q with q | ⟨q1, q2, q3⟩
    · have e := h5 i q.1 q.2
      rw [e]
      exact ⟨by omega, by omega, by rw [show n + 1 - 1 = n by omega]; exact h2⟩
    · exact ⟨q1, by omega, q3⟩
theorem gu_yob {ob ln kd : Nat → Nat} (ho : iv_o ob ln kd) {mk : Nat → Bool} {n : Nat} (hn : n < 512) (h1 : ob n = n + 1) (h2 : mk n = false) {i : Nat} (hi : i < 512) : gu_ob ob mk (n + 1) i = if n ≤ i ∧ i < n + ln n then 0 else gu_ob ob mk n i := by
  have e := gu_yes ho hn h1 h2 hi
  unfold gu_ob
  by_cases q : n ≤ i ∧ i < n + ln n
  · rw [if_pos q, if_pos (e.mpr (Or.inl q))]
  · rw [if_neg q]
    by_cases q2 : ob i ≠ 0 ∧ ob i - 1 < n ∧ mk (ob i - 1) = false
    · rw [if_pos q2, if_pos (e.mpr (Or.inr q2))]
    · rw [if_neg q2, if_neg (fun z => (e.mp z).elim q q2)]
theorem gu_ywd {ob ln kd : Nat → Nat} {wd : Nat → Int32} (ho : iv_o ob ln kd) {mk : Nat → Bool} {n : Nat} (hn : n < 512) (h1 : ob n = n + 1) (h2 : mk n = false) {i : Nat} (hi : i < 512) : gu_wd wd ob mk (n + 1) i = if n ≤ i ∧ i < n + ln n then 0 else gu_wd wd ob mk n i := by
  have e := gu_yes ho hn h1 h2 hi
  unfold gu_wd
  by_cases q : n ≤ i ∧ i < n + ln n
  · rw [if_pos q, if_pos (e.mpr (Or.inl q))]
  · rw [if_neg q]
    by_cases q2 : ob i ≠ 0 ∧ ob i - 1 < n ∧ mk (ob i - 1) = false
    · rw [if_pos q2, if_pos (e.mpr (Or.inr q2))]
    · rw [if_neg q2, if_neg (fun z => (e.mp z).elim q q2)]
theorem gu_cy {ob ln kd : Nat → Nat} (ho : iv_o ob ln kd) {mk : Nat → Bool} {n : Nat} (hn : n < 512) (h1 : ob n = n + 1) (h2 : mk n = false) : iv_c (gu_ob ob mk n) = iv_c (gu_ob ob mk (n + 1)) + 1 := by
  unfold iv_c
  have hl := (ho n hn n h1).2.1
  refine cn_set (k := n) (cl_f.mpr ?_) (cl_t.mpr ?_) 512 hn (fun i hi hne => cl_e ?_)
  · rw [gu_yob ho hn h1 h2 hn, if_pos ⟨Nat.le_refl _, hl⟩]
    omega
  · exact gu_at.mpr h1
  · rw [gu_yob ho hn h1 h2 hi]
    by_cases q : n ≤ i ∧ i < n + ln n
    · rw [if_pos q]
      have e := (ho n hn n h1).2.2.2.2.1 i q.1 q.2
      unfold gu_ob
      rw [if_neg (by omega)]
      omega
    · rw [if_neg q]
theorem gu_cn {ob ln kd : Nat → Nat} (ho : iv_o ob ln kd) {mk : Nat → Bool} {n : Nat} (h : ¬ (ob n = n + 1 ∧ mk n = false)) : iv_c (gu_ob ob mk (n + 1)) = iv_c (gu_ob ob mk n) := cn_ext 512 (fun i hi => cl_e (by rw [gu_nob ho h hi]))
theorem gu_eob {ob ln kd : Nat → Nat} (ho : iv_o ob ln kd) {mk : Nat → Bool} {i : Nat} (hi : i < 512) : gu_ob ob mk 512 i = co_ob ob mk i := by
  have := iv_lt ho hi
  unfold gu_ob co_ob
  by_cases q : mk (ob i - 1) = true
  · rw [if_pos q, if_neg (by rw [q]; simp)]
  · rw [if_neg q]
    by_cases z : ob i = 0
    · rw [if_neg (by omega)]
      exact z
    · rw [if_pos ⟨z, by omega, cl_ft q⟩]
theorem gu_ewd {ob ln kd : Nat → Nat} {wd : Nat → Int32} (ho : iv_o ob ln kd) {mk : Nat → Bool} {i : Nat} (hi : i < 512) : gu_wd wd ob mk 512 i = co_wd wd ob mk i := by
  have := iv_lt ho hi
  unfold gu_wd co_wd
  by_cases q : ob i ≠ 0 ∧ mk (ob i - 1) = false
  · rw [if_pos q, if_pos ⟨q.1, by omega, q.2⟩]
  · rw [if_neg q, if_neg (fun z => q ⟨z.1, z.2.2⟩)]
theorem gu_c0 (ob : Nat → Nat) (mk : Nat → Bool) : iv_c (gu_ob ob mk 0) = iv_c ob := cn_ext 512 (fun i hi => cl_e (by rw [gu_0]))
theorem gu_ce {ob ln kd : Nat → Nat} (ho : iv_o ob ln kd) (mk : Nat → Bool) : iv_c (gu_ob ob mk 512) = iv_c (co_ob ob mk) := cn_ext 512 (fun i hi => cl_e (by rw [gu_eob ho hi]))
/-- the words of a block that are in no object -/
noncomputable def fw_n (ob : Nat → Nat) (b : Nat) : Nat := cn_t (fun j => cl_b (ob (32 * b + j) = 0)) 32
theorem fw_32 {ob : Nat → Nat} {b : Nat} : fw_n ob b = 32 ↔ co_br ob b := by
  constructor
  · intro h j hj
    cases hz : cl_b (ob (32 * b + j) = 0) with
    | true => exact cl_t.mp hz
    | false =>
      have := cn_lt (P := fun j => cl_b (ob (32 * b + j) = 0)) hz 32 hj
      unfold fw_n at h
      omega
  · intro h
    exact cn_all 32 (fun i hi => cl_t.mpr (h i hi))
/-- they are the words of the empty slots -/
noncomputable def es_n (ob kd : Nat → Nat) (b : Nat) : Nat := cn_t (fun t => cl_b (ob (32 * b + t * kd b) = 0)) (32 / kd b)
theorem es_eq {ob ln kd : Nat → Nat} (ho : iv_o ob ln kd) {b : Nat} (hb : b < 16) (hs : kd b = 2 ∨ kd b = 4 ∨ kd b = 8 ∨ kd b = 16) : fw_n ob b = es_n ob kd b * kd b := by
  unfold fw_n es_n
  have h32 : 32 = 32 / kd b * kd b := by rcases hs with e | e | e | e <;> rw [e]
  have key : ∀ t r, t < 32 / kd b → r < kd b → cl_b (ob (32 * b + (t * kd b + r)) = 0) = cl_b (ob (32 * b + t * kd b) = 0) := by
    intro t r ht hr
    refine cl_e ⟨fun h => ?_, fun h => ?_⟩
    · refine iv_slot ho (i := 32 * b + (t * kd b + r)) (s := kd b) ?_ hs ?_ h ?_
      · rcases hs with e | e | e | e <;> rw [e] at ht hr ⊢ <;> omega
      · congr 1
        rcases hs with e | e | e | e <;> rw [e] at ht hr ⊢ <;> omega
      · rcases hs with e | e | e | e <;> rw [e] at ht hr ⊢ <;> omega
    · refine iv_slot ho (i := 32 * b + t * kd b) (s := kd b) ?_ hs ?_ h ?_
      · rcases hs with e | e | e | e <;> rw [e] at ht hr ⊢ <;> omega
      · congr 1
        rcases hs with e | e | e | e <;> rw [e] at ht hr ⊢ <;> omega
      · rcases hs with e | e | e | e <;> rw [e] at ht hr ⊢ <;> omega
  have := cn_mul (P := fun t => cl_b (ob (32 * b + t * kd b) = 0)) (Q := fun j => cl_b (ob (32 * b + j) = 0)) (kd b) (32 / kd b) key
  rw [← h32] at this
  exact this
/-- the reference frees the blocks of a large object where it is given up -/
def gk_kd (kd ob : Nat → Nat) (mk : Nat → Bool) (n : Nat) : Nat → Nat := fun b => if 32 ≤ kd b ∧ ob (32 * b) ≠ 0 ∧ ob (32 * b) - 1 < n ∧ mk (ob (32 * b) - 1) = false then 0 else kd b
theorem gk_0 (kd ob : Nat → Nat) (mk : Nat → Bool) (b : Nat) : gk_kd kd ob mk 0 b = kd b := by
  unfold gk_kd
  rw [if_neg (by omega)]
theorem gk_n {ob ln kd : Nat → Nat} (ho : iv_o ob ln kd) {mk : Nat → Bool} {n : Nat} (h : ¬ (ob n = n + 1 ∧ mk n = false)) {b : Nat} (hb : b < 16) : gk_kd kd ob mk (n + 1) b = gk_kd kd ob mk n b := by
  unfold gk_kd
  have e := gu_no ho h (i := 32 * b) (by omega)
  by_cases q : 32 ≤ kd b ∧ ob (32 * b) ≠ 0 ∧ ob (32 * b) - 1 < n ∧ mk (ob (32 * b) - 1) = false
  · rw [if_pos q, if_pos ⟨q.1, e.mpr q.2⟩]
  · rw [if_neg q, if_neg (fun z => q ⟨z.1, e.mp z.2⟩)]
theorem gk_y {ob ln kd : Nat → Nat} (ho : iv_o ob ln kd) {mk : Nat → Bool} {n : Nat} (hn : n < 512) (h1 : ob n = n + 1) (h2 : mk n = false) {b : Nat} (hb : b < 16) :
    gk_kd kd ob mk (n + 1) b = if 32 ≤ gk_kd kd ob mk n b ∧ n ≤ 32 * b ∧ 32 * b < n + ln n then 0 else gk_kd kd ob mk n b := by
  have e := gu_yes ho hn h1 h2 (i := 32 * b) (by omega)
  by_cases k : 32 ≤ kd b
  · by_cases q : ob (32 * b) ≠ 0 ∧ ob (32 * b) - 1 < n ∧ mk (ob (32 * b) - 1) = false
    · have e0 : gk_kd kd ob mk n b = 0 := if_pos ⟨k, q⟩
      have e1 : gk_kd kd ob mk (n + 1) b = 0 := if_pos ⟨k, e.mpr (Or.inr q)⟩
      rw [e0, e1, if_neg (by omega)]
    · have e0 : gk_kd kd ob mk n b = kd b := if_neg (fun z => q z.2)
      rw [e0]
      by_cases r : n ≤ 32 * b ∧ 32 * b < n + ln n
      · rw [if_pos ⟨k, r⟩]
        exact if_pos ⟨k, e.mpr (Or.inl r)⟩
      · rw [if_neg (fun z => r z.2)]
        exact if_neg (fun z => (e.mp z.2).elim r q)
  · have e0 : gk_kd kd ob mk n b = kd b := if_neg (fun z => k z.1)
    have e1 : gk_kd kd ob mk (n + 1) b = kd b := if_neg (fun z => k z.1)
    rw [e0, e1, if_neg (fun z => k z.1)]
theorem gk_e {ob ln kd : Nat → Nat} (ho : iv_o ob ln kd) (hl : iv_l ob kd) {mk : Nat → Bool} {b : Nat} (hb : b < 16) : (if gk_kd kd ob mk 512 b < 32 ∧ cl_b (co_br (co_ob ob mk) b) = true then 0 else gk_kd kd ob mk 512 b) = co_kd kd (co_ob ob mk) b := by
  have h5 : 32 * b < 512 := by omega
  have hd : 32 * b / 32 = b := by omega
  by_cases br : co_br (co_ob ob mk) b
  · have r : co_kd kd (co_ob ob mk) b = 0 := if_pos (cl_t.mpr br)
    rw [r]
    by_cases k : 32 ≤ kd b
    · have h0 : co_ob ob mk (32 * b) = 0 := by
        have := br 0 (by omega)
        rwa [Nat.add_zero] at this
      have hne := hl (32 * b) h5 (by rw [hd]; exact k)
      have hlt := iv_lt ho h5
      have hm : mk (ob (32 * b) - 1) = false := by
        unfold co_ob at h0
        split at h0
        · exact absurd h0 hne
        · rename_i q
          exact cl_ft q
      have e0 : gk_kd kd ob mk 512 b = 0 := if_pos ⟨k, hne, by omega, hm⟩
      rw [e0]
      split <;> rfl
    · have e0 : gk_kd kd ob mk 512 b = kd b := if_neg (fun z => k z.1)
      rw [e0, if_pos ⟨by omega, cl_t.mpr br⟩]
  · have r : co_kd kd (co_ob ob mk) b = kd b := if_neg (fun q => br (cl_t.mp q))
    rw [r, if_neg (fun z => br (cl_t.mp z.2))]
    refine if_neg (fun z => ?_)
    obtain ⟨k, z1, z2, z3⟩ := z
    refine br (fun j hj => ?_)
    obtain ⟨p, hp⟩ : ∃ p, ob (32 * b) = p + 1 := ⟨ob (32 * b) - 1, by omega⟩
    have e := (iv_big ho h5 (by rw [hd]; exact k) hp (j := 32 * b + j) (by omega)).1
    have e2 : ob (32 * b) - 1 = p := by omega
    rw [e2] at z3
    unfold co_ob
    rw [e, show p + 1 - 1 = p by omega, z3]
    rfl
end
section
/-! contracts: what reads, what changes a world of fixed addresses -/
def rm_d (d : Nat) : Room := { frames := d, cells := 0, slots := 0, locals := 40 * d }
def gx_I (D : va_G) (cl : List vw_C) (tys : List (ClassId × FieldType)) (w : va_W) (U : State) : Prop := va_P D cl w U.heap ∧ va_K D cl tys U ∧ va_D (fun _ => True) w
def gx_A (hs : Nat → Nat) (n : Nat) : Nat → Prop := fun q => ∃ k, k < n ∧ q = hs k
/-- behind a method: its answer and the world, which 'Z' ties -/
def gx_Q (D : va_G) (cl : List vw_C) (A : Nat → Prop) (w : va_W) (Z : Option Value → va_W → Prop) : Array Value → State → Outcome → State → Prop := fun _ st o t =>
  ∃ (v : Option Value) (w' : va_W), o = .returned v ∧ Z v w' ∧ w'.map (fun q => q.1) = w.map (fun q => q.1) ∧ va_P D cl w' t.heap ∧ va_F A st t
theorem gx_blind {av : List Value} {D : va_G} {cl : List vw_C} {tys : List (ClassId × FieldType)} {w : va_W} : FrameBlind (va_Pc av (gx_I D cl tys w)) :=
  fun _ U g mk q => ⟨q.1, q.2.1, va_K.moved (u := U) (U := U.calling g mk _) (Vm.Alike.refl U.vm) q.2.2.1, q.2.2.2⟩
theorem gx_Dadr {A : Nat → Prop} {w w' : va_W} (h : va_D A w) (e : w'.map (fun q => q.1) = w.map (fun q => q.1)) : va_D A w' := by
  have key : ∀ (k : Nat) (q : Nat × va_E), w'[k]? = some q → ∃ q', w[k]? = some q' ∧ q'.1 = q.1 := by
    intro k q hk
    have h1 : (w'.map (fun q => q.1))[k]? = some q.1 := by rw [List.getElem?_map, hk]; rfl
    rw [e, List.getElem?_map] at h1
    cases h2 : w[k]? with
    | none => rw [h2] at h1; cases h1
    | some q' => rw [h2] at h1; exact ⟨q', rfl, Option.some.inj h1⟩
  refine ⟨fun i j x y hi hj hxy => ?_, fun k q hk => ?_⟩
  · obtain ⟨x', a1, a2⟩ := key i x hi
    obtain ⟨y', b1, b2⟩ := key j y hj
    exact h.1 i j x' y' a1 b1 (a2.trans (hxy.trans b2.symm))
  · obtain ⟨q', a1, a2⟩ := key k q hk
    rw [← a2]
    exact h.2 k q' a1
/-- the values of an array matter within its length alone -/
theorem gx_ext {D : va_G} {cl : List vw_C} {w : va_W} {H : Heap} {a n q0 : Nat} {cA : ClassId} {f g : Nat → Int32} (hP : va_P D cl w H) (ha : w[q0]? = some (a, .inl (cA, n, .inl f))) (h : ∀ j, j < n → f j = g j) : va_P D cl (w.set q0 (a, .inl (cA, n, .inl g))) H := by
  have hl := (List.getElem?_eq_some_iff.mp ha).1
  intro k q hk
  by_cases hkp : k = q0
  · subst hkp
    rw [List.getElem?_set_self hl] at hk
    cases hk
    have h1 : H[a]? = some (vp_cell cA (n, .inl f)) := hP k _ ha
    show H[a]? = some (vp_cell cA (n, .inl g))
    rw [h1, vp_cell_i, vp_cell_i]
    congr 1
    unfold arrV
    congr 1
    apply Array.ext
    · simp
    · intro i i1 i2
      simp at i1
      simp [h i i1]
  · rw [List.getElem?_set_ne (Ne.symm hkp)] at hk
    exact hP k q hk
theorem gx_narb (b : Bool) : narrow .boolean (.int (zb_e b)) = .int (zb_e b) := by
  cases b <;> rfl
section GX
variable {l : Launch}
theorem gx_pureI {y : MethodName} {ws' : List Cond} {rm : Room} {cc : ByteArray} {maxL : Nat} {av : List Value} {r : Int32} {D : va_G} {cl : List vw_C} {tys : List (ClassId × FieldType)} {w : va_W}
    (hy : plainName y.cls = true) (hlen : (lg_sl av).length ≤ maxL)
    (body : ∀ (p : Program) (e : Env) (s : State) (m : MethodId) (args : Array Value) (below : List Frame) (meth : Method) (c : Code) (ls : Array Slot) (Q : State → Prop), p.tables.exec = Jvm.exec → c.code = cc → c.maxLocals = maxL →
      (∀ w ∈ ws', w.before args s = true) → s.vm.findClass y.cls = some m.cls →
      (∀ (pc : Nat) (ls : Array Slot) (v : Int32), decode cc pc = .ok (.ireturn, 1) → v = r → W p l e rm s m args below meth c s.heap [] 0 0 Q (F0 m pc ls [.int (v)])) →
      va_P D cl w s.heap → va_K D cl tys s → va_D (fun _ => True) w → lv_has ls maxL (lv_args 0 av) → W p l e rm s m args below meth c s.heap [] 0 0 Q (F0 m 0 ls [])) :
    Met l y (Cond.code y cc maxL (some .int) :: ws') rm (va_Pc av (gx_I D cl tys w)) (QcRead r) 0 0 (fun _ => False) := by
  refine Met.ofW (cc := cc) (maxL := maxL) (ret := some .int) hy rfl ?_
  intro p e s m args below meth c s₁ B hml hv
  obtain ⟨rfl, hP, hK, hD⟩ := hv
  have hl := lv_entry av (n := maxL) hlen
  rw [lg_entry_eq]
  refine body p e s m _ below meth c _ _ B.exec B.bytes hml (fun w h => atoms_spec (ws := Cond.code y cc maxL (some .int) :: ws') B.pre w (List.mem_cons_of_mem _ h)) (findClass_of_methodNamed B.named) (fun pc ls v hdg h => ?_) hP hK hD hl
  subst h
  exact W.iret B.exec B.bytes B.returns (fun t ht _ => ⟨rfl, ht⟩) t_nil hdg B.notSynchronized
theorem gx_pureZ {y : MethodName} {ws' : List Cond} {rm : Room} {cc : ByteArray} {maxL : Nat} {av : List Value} {r : Int32} {D : va_G} {cl : List vw_C} {tys : List (ClassId × FieldType)} {w : va_W}
    (hy : plainName y.cls = true) (hlen : (lg_sl av).length ≤ maxL)
    (body : ∀ (p : Program) (e : Env) (s : State) (m : MethodId) (args : Array Value) (below : List Frame) (meth : Method) (c : Code) (ls : Array Slot) (Q : State → Prop), p.tables.exec = Jvm.exec → c.code = cc → c.maxLocals = maxL →
      (∀ w ∈ ws', w.before args s = true) → s.vm.findClass y.cls = some m.cls →
      (∀ (pc : Nat) (ls : Array Slot) (v : Bool), decode cc pc = .ok (.ireturn, 1) → zb_e v = r → W p l e rm s m args below meth c s.heap [] 0 0 Q (F0 m pc ls [.int (zb_e v)])) →
      va_P D cl w s.heap → va_K D cl tys s → va_D (fun _ => True) w → lv_has ls maxL (lv_args 0 av) → W p l e rm s m args below meth c s.heap [] 0 0 Q (F0 m 0 ls [])) :
    Met l y (Cond.code y cc maxL (some .boolean) :: ws') rm (va_Pc av (gx_I D cl tys w)) (QcRead r) 0 0 (fun _ => False) := by
  refine Met.ofW (cc := cc) (maxL := maxL) (ret := some .boolean) hy rfl ?_
  intro p e s m args below meth c s₁ B hml hv
  obtain ⟨rfl, hP, hK, hD⟩ := hv
  have hl := lv_entry av (n := maxL) hlen
  rw [lg_entry_eq]
  refine body p e s m _ below meth c _ _ B.exec B.bytes hml (fun w h => atoms_spec (ws := Cond.code y cc maxL (some .boolean) :: ws') B.pre w (List.mem_cons_of_mem _ h)) (findClass_of_methodNamed B.named) (fun pc ls v hdg h => ?_) hP hK hD hl
  subst h
  exact W.zret B.exec B.bytes B.returns (gx_narb v) (fun t ht _ => ⟨rfl, ht⟩) t_nil hdg B.notSynchronized
theorem gx_mutV {y : MethodName} {ws' : List Cond} {rm : Room} {cc : ByteArray} {maxL mc ms : Nat} {av : List Value} {A : Nat → Prop} {Z : Option Value → va_W → Prop} {D : va_G} {cl : List vw_C} {tys : List (ClassId × FieldType)} {w : va_W}
    (hy : plainName y.cls = true) (hlen : (lg_sl av).length ≤ maxL) (hA : ∀ (k : Nat) (q : Nat × va_E), w[k]? = some q → A q.1)
    (body : ∀ (p : Program) (e : Env) (s : State) (m : MethodId) (args : Array Value) (below : List Frame) (meth : Method) (c : Code) (ls : Array Slot) (Q : State → Prop), p.tables.exec = Jvm.exec → c.code = cc → c.maxLocals = maxL →
      (∀ w ∈ ws', w.before args s = true) → s.vm.findClass y.cls = some m.cls →
      (∀ (pc : Nat) (ls : Array Slot) (w' : va_W) (H : Heap) (locs : List Loc), decode cc pc = .ok (.return_, 1) → va_P D cl w' H → va_S A s.heap H locs → w'.map (fun q => q.1) = w.map (fun q => q.1) → Z (none) w' → W p l e rm s m args below meth c H locs mc ms Q (F0 m pc ls [])) →
      va_P D cl w s.heap → va_K D cl tys s → va_D A w → va_S A s.heap s.heap [] → lv_has ls maxL (lv_args 0 av) → W p l e rm s m args below meth c s.heap [] 0 0 Q (F0 m 0 ls [])) :
    Met l y (Cond.code y cc maxL (none) :: ws') rm (va_Pc av (gx_I D cl tys w)) (gx_Q D cl A w Z) mc ms A := by
  refine Met.ofW (cc := cc) (maxL := maxL) (ret := none) hy rfl ?_
  intro p e s m args below meth c s₁ B hml hv
  obtain ⟨rfl, hP, hK, hD⟩ := hv
  have hl := lv_entry av (n := maxL) hlen
  rw [lg_entry_eq]
  refine body p e s m _ below meth c _ _ B.exec B.bytes hml (fun w h => atoms_spec (ws := Cond.code y cc maxL (none) :: ws') B.pre w (List.mem_cons_of_mem _ h)) (findClass_of_methodNamed B.named) (fun pc ls w' H locs hdg hP hS hadr hZ => ?_) hP hK (hD.weaken (fun k q hk _ => hA k q hk)) va_S.rf hl
  exact W.vret B.exec B.bytes B.returns (fun t ht _ => ⟨none, w', rfl, hZ, hadr, by rw [ht]; exact hP, hS.F ht⟩) hS.2.2 hdg B.notSynchronized
theorem gx_mutI {y : MethodName} {ws' : List Cond} {rm : Room} {cc : ByteArray} {maxL mc ms : Nat} {av : List Value} {A : Nat → Prop} {Z : Option Value → va_W → Prop} {D : va_G} {cl : List vw_C} {tys : List (ClassId × FieldType)} {w : va_W}
    (hy : plainName y.cls = true) (hlen : (lg_sl av).length ≤ maxL) (hA : ∀ (k : Nat) (q : Nat × va_E), w[k]? = some q → A q.1)
    (body : ∀ (p : Program) (e : Env) (s : State) (m : MethodId) (args : Array Value) (below : List Frame) (meth : Method) (c : Code) (ls : Array Slot) (Q : State → Prop), p.tables.exec = Jvm.exec → c.code = cc → c.maxLocals = maxL →
      (∀ w ∈ ws', w.before args s = true) → s.vm.findClass y.cls = some m.cls →
      (∀ (pc : Nat) (ls : Array Slot) (v : Int32) (w' : va_W) (H : Heap) (locs : List Loc), decode cc pc = .ok (.ireturn, 1) → va_P D cl w' H → va_S A s.heap H locs → w'.map (fun q => q.1) = w.map (fun q => q.1) → Z (some (.int v)) w' → W p l e rm s m args below meth c H locs mc ms Q (F0 m pc ls [.int v])) →
      va_P D cl w s.heap → va_K D cl tys s → va_D A w → va_S A s.heap s.heap [] → lv_has ls maxL (lv_args 0 av) → W p l e rm s m args below meth c s.heap [] 0 0 Q (F0 m 0 ls [])) :
    Met l y (Cond.code y cc maxL (some .int) :: ws') rm (va_Pc av (gx_I D cl tys w)) (gx_Q D cl A w Z) mc ms A := by
  refine Met.ofW (cc := cc) (maxL := maxL) (ret := some .int) hy rfl ?_
  intro p e s m args below meth c s₁ B hml hv
  obtain ⟨rfl, hP, hK, hD⟩ := hv
  have hl := lv_entry av (n := maxL) hlen
  rw [lg_entry_eq]
  refine body p e s m _ below meth c _ _ B.exec B.bytes hml (fun w h => atoms_spec (ws := Cond.code y cc maxL (some .int) :: ws') B.pre w (List.mem_cons_of_mem _ h)) (findClass_of_methodNamed B.named) (fun pc ls v w' H locs hdg hP hS hadr hZ => ?_) hP hK (hD.weaken (fun k q hk _ => hA k q hk)) va_S.rf hl
  exact W.iret B.exec B.bytes B.returns (fun t ht _ => ⟨some (.int v), w', rfl, hZ, hadr, by rw [ht]; exact hP, hS.F ht⟩) hS.2.2 hdg B.notSynchronized
theorem gx_mutZ {y : MethodName} {ws' : List Cond} {rm : Room} {cc : ByteArray} {maxL mc ms : Nat} {av : List Value} {A : Nat → Prop} {Z : Option Value → va_W → Prop} {D : va_G} {cl : List vw_C} {tys : List (ClassId × FieldType)} {w : va_W}
    (hy : plainName y.cls = true) (hlen : (lg_sl av).length ≤ maxL) (hA : ∀ (k : Nat) (q : Nat × va_E), w[k]? = some q → A q.1)
    (body : ∀ (p : Program) (e : Env) (s : State) (m : MethodId) (args : Array Value) (below : List Frame) (meth : Method) (c : Code) (ls : Array Slot) (Q : State → Prop), p.tables.exec = Jvm.exec → c.code = cc → c.maxLocals = maxL →
      (∀ w ∈ ws', w.before args s = true) → s.vm.findClass y.cls = some m.cls →
      (∀ (pc : Nat) (ls : Array Slot) (v : Bool) (w' : va_W) (H : Heap) (locs : List Loc), decode cc pc = .ok (.ireturn, 1) → va_P D cl w' H → va_S A s.heap H locs → w'.map (fun q => q.1) = w.map (fun q => q.1) → Z (some (.int (zb_e v))) w' → W p l e rm s m args below meth c H locs mc ms Q (F0 m pc ls [.int (zb_e v)])) →
      va_P D cl w s.heap → va_K D cl tys s → va_D A w → va_S A s.heap s.heap [] → lv_has ls maxL (lv_args 0 av) → W p l e rm s m args below meth c s.heap [] 0 0 Q (F0 m 0 ls [])) :
    Met l y (Cond.code y cc maxL (some .boolean) :: ws') rm (va_Pc av (gx_I D cl tys w)) (gx_Q D cl A w Z) mc ms A := by
  refine Met.ofW (cc := cc) (maxL := maxL) (ret := some .boolean) hy rfl ?_
  intro p e s m args below meth c s₁ B hml hv
  obtain ⟨rfl, hP, hK, hD⟩ := hv
  have hl := lv_entry av (n := maxL) hlen
  rw [lg_entry_eq]
  refine body p e s m _ below meth c _ _ B.exec B.bytes hml (fun w h => atoms_spec (ws := Cond.code y cc maxL (some .boolean) :: ws') B.pre w (List.mem_cons_of_mem _ h)) (findClass_of_methodNamed B.named) (fun pc ls v w' H locs hdg hP hS hadr hZ => ?_) hP hK (hD.weaken (fun k q hk _ => hA k q hk)) va_S.rf hl
  exact W.zret B.exec B.bytes B.returns (gx_narb v) (fun t ht _ => ⟨some (.int (zb_e v)), w', rfl, hZ, hadr, by rw [ht]; exact hP, hS.F ht⟩) hS.2.2 hdg B.notSynchronized
theorem gx_statI {y : MethodName} {ws' : List Cond} {rm : Room} {cc : ByteArray} {maxL : Nat} {av : List Value} {r : Int32}
    (hy : plainName y.cls = true) (hlen : (lg_sl av).length ≤ maxL)
    (body : ∀ (p : Program) (e : Env) (s : State) (m : MethodId) (args : Array Value) (below : List Frame) (meth : Method) (c : Code) (ls : Array Slot) (Q : State → Prop), p.tables.exec = Jvm.exec → c.code = cc → c.maxLocals = maxL →
      (∀ w ∈ ws', w.before args s = true) → s.vm.findClass y.cls = some m.cls →
      (∀ (pc : Nat) (ls : Array Slot) (v : Int32), decode cc pc = .ok (.ireturn, 1) → v = r → W p l e rm s m args below meth c s.heap [] 0 0 Q (F0 m pc ls [.int (v)])) →
      lv_has ls maxL (lv_args 0 av) → W p l e rm s m args below meth c s.heap [] 0 0 Q (F0 m 0 ls [])) :
    Met l y (Cond.code y cc maxL (some .int) :: ws') rm (fun v _ => v = av.toArray) (QcRead r) 0 0 (fun _ => False) := by
  refine Met.ofW (cc := cc) (maxL := maxL) (ret := some .int) hy rfl ?_
  intro p e s m args below meth c s₁ B hml hv
  subst hv
  have hl := lv_entry av (n := maxL) hlen
  rw [lg_entry_eq]
  refine body p e s m _ below meth c _ _ B.exec B.bytes hml (fun w h => atoms_spec (ws := Cond.code y cc maxL (some .int) :: ws') B.pre w (List.mem_cons_of_mem _ h)) (findClass_of_methodNamed B.named) (fun pc ls v hdg h => ?_) hl
  subst h
  exact W.iret B.exec B.bytes B.returns (fun t ht _ => ⟨rfl, ht⟩) t_nil hdg B.notSynchronized
theorem gx_statZ {y : MethodName} {ws' : List Cond} {rm : Room} {cc : ByteArray} {maxL : Nat} {av : List Value} {r : Int32}
    (hy : plainName y.cls = true) (hlen : (lg_sl av).length ≤ maxL)
    (body : ∀ (p : Program) (e : Env) (s : State) (m : MethodId) (args : Array Value) (below : List Frame) (meth : Method) (c : Code) (ls : Array Slot) (Q : State → Prop), p.tables.exec = Jvm.exec → c.code = cc → c.maxLocals = maxL →
      (∀ w ∈ ws', w.before args s = true) → s.vm.findClass y.cls = some m.cls →
      (∀ (pc : Nat) (ls : Array Slot) (v : Bool), decode cc pc = .ok (.ireturn, 1) → zb_e v = r → W p l e rm s m args below meth c s.heap [] 0 0 Q (F0 m pc ls [.int (zb_e v)])) →
      lv_has ls maxL (lv_args 0 av) → W p l e rm s m args below meth c s.heap [] 0 0 Q (F0 m 0 ls [])) :
    Met l y (Cond.code y cc maxL (some .boolean) :: ws') rm (fun v _ => v = av.toArray) (QcRead r) 0 0 (fun _ => False) := by
  refine Met.ofW (cc := cc) (maxL := maxL) (ret := some .boolean) hy rfl ?_
  intro p e s m args below meth c s₁ B hml hv
  subst hv
  have hl := lv_entry av (n := maxL) hlen
  rw [lg_entry_eq]
  refine body p e s m _ below meth c _ _ B.exec B.bytes hml (fun w h => atoms_spec (ws := Cond.code y cc maxL (some .boolean) :: ws') B.pre w (List.mem_cons_of_mem _ h)) (findClass_of_methodNamed B.named) (fun pc ls v hdg h => ?_) hl
  subst h
  exact W.zret B.exec B.bytes B.returns (gx_narb v) (fun t ht _ => ⟨rfl, ht⟩) t_nil hdg B.notSynchronized
end GX
section GY
variable {p : Program} {l : Launch} {e : Env} {R : Room} {s : State} {m : MethodId} {args : Array Value} {below : List Frame} {meth : Method} {c : Code} {H : Heap} {locs : List Loc} {cells slots : Nat} {Q : State → Prop}
variable {cc : ByteArray} {pc : Nat} {ls : Array Slot} {rest : List Value} {D : va_G} {cl : List vw_C} {A : Nat → Prop} {a : Nat} {tys : List (ClassId × FieldType)} {w w' : va_W} {H0 : Heap} {Z : Option Value → va_W → Prop}
/-- a call that changes a world -/
theorem gx_go {mc ms : Nat} {st0 : List Value} {A1 : Nat → Prop} {av : Array Value} (hr : CallRun p l e R s m args below meth c H locs cells slots mc ms (F0 m pc ls st0) rest (gx_Q D cl A1 w Z av) A1) (hD : va_D A w) (hS : va_S A H0 H locs) (hA : ∀ q, A1 q → A q)
    (kk : ∀ (v : Option Value) (w' : va_W) (H1 : Heap) (locs1 : List Loc), Z v w' → va_P D cl w' H1 → va_D A w' → va_S A H0 H1 locs1 → H.size ≤ H1.size → (∀ q : Nat, q < H.size → ¬ A1 q → H1[q]? = H[q]?) → W p l e R s m args below meth c H1 locs1 (cells + mc) (slots + ms) Q (F0 m (pc + 3) ls (v.toList ++ rest))) :
    W p l e R s m args below meth c H locs cells slots Q (F0 m pc ls st0) := by
  intro T hT X
  obtain ⟨v, st₀, t, T', L, h0, X', hL, e1, ⟨v', w', hv, hZ, hadr, hP, hz, hk⟩, st⟩ := hr T hT X
  cases hv
  rw [h0] at hz hk
  obtain ⟨t2, a1, b1⟩ := kk v w' T'.heap (locs ++ L) hZ (by rw [e1]; exact hP) (gx_Dadr hD hadr)
    ⟨Nat.le_trans hS.1 (by rw [e1]; exact hz), fun q h1 h2 => by rw [e1, hk q (Nat.lt_of_lt_of_le h1 hS.1) (fun z => h2 (hA q z))]; exact hS.2.1 q h1 h2, fun q hq => by
      rcases List.mem_append.mp hq with h | h
      · exact hS.2.2 q h
      · exact hA _ (hL q h)⟩ (by rw [e1]; exact hz) (fun q h1 h2 => by rw [e1]; exact hk q h1 h2) T' rfl X'
  exact ⟨t2, st t2 a1, b1⟩
end GY
end
section
/-! the row of blocks that is counted -/
def fb_I (kd : Nat → Nat) (df : Nat → Bool) (f : Bool) (c b r : Nat) : Prop := r < c ∧ r ≤ b ∧ (∀ j, b ≤ j + r → j < b → us_b kd df f j = true) ∧ (r < b → us_b kd df f (b - r - 1) = false) ∧ ∀ s, s + c ≤ b → rn_b kd df f c s = false
theorem fb_0 {kd : Nat → Nat} {df : Nat → Bool} {f : Bool} {c : Nat} (hc : 1 ≤ c) : fb_I kd df f c 0 0 := ⟨hc, Nat.le_refl _, fun j _ h => by omega, fun h => by omega, fun s h => by omega⟩
theorem fb_no {kd : Nat → Nat} {df : Nat → Bool} {f : Bool} {c b r : Nat} (h : fb_I kd df f c b r) (hu : us_b kd df f b = false) : fb_I kd df f c (b + 1) 0 := by
  obtain ⟨h1, h2, h3, h4, h5⟩ := h
  refine ⟨by omega, by omega, fun j q1 q2 => by omega, fun _ => by rw [show b + 1 - 0 - 1 = b by omega]; exact hu, fun s hs => ?_⟩
  by_cases e : s + c ≤ b
  · exact h5 s e
  · refine cl_f.mpr (fun q => ?_)
    have := q.2 (b - s) (by omega)
    rw [show s + (b - s) = b by omega, hu] at this
    cases this
theorem fb_yes {kd : Nat → Nat} {df : Nat → Bool} {f : Bool} {c b r : Nat} (h : fb_I kd df f c b r) (hu : us_b kd df f b = true) (hr : r + 1 < c) : fb_I kd df f c (b + 1) (r + 1) := by
  obtain ⟨h1, h2, h3, h4, h5⟩ := h
  refine ⟨hr, by omega, fun j q1 q2 => ?_, fun q => ?_, fun s hs => ?_⟩
  · by_cases e : j = b
    · subst e
      exact hu
    · exact h3 j (by omega) (by omega)
  · rw [show b + 1 - (r + 1) - 1 = b - r - 1 by omega]
    exact h4 (by omega)
  · by_cases e : s + c ≤ b
    · exact h5 s e
    · refine cl_f.mpr (fun q => ?_)
      have hb : r < b := by omega
      have h6 := h4 hb
      have := q.2 (b - r - 1 - s) (by omega)
      rw [show s + (b - r - 1 - s) = b - r - 1 by omega, h6] at this
      cases this
theorem fb_hit {kd : Nat → Nat} {df : Nat → Bool} {f : Bool} {c b r : Nat} (h : fb_I kd df f c b r) (hu : us_b kd df f b = true) (hr : r + 1 = c) (hb : b < 16) : rm_b kd df f c = b + 1 - c := by
  obtain ⟨h1, h2, h3, h4, h5⟩ := h
  refine le_eq (by omega) (cl_t.mpr ⟨by omega, fun j hj => ?_⟩) (fun j hj => h5 j (by omega))
  by_cases e : b + 1 - c + j = b
  · rw [e]
    exact hu
  · exact h3 _ (by omega) (by omega)
theorem fb_end {kd : Nat → Nat} {df : Nat → Bool} {f : Bool} {c r : Nat} (h : fb_I kd df f c 16 r) : rm_b kd df f c = 16 := by
  refine le_no (fun j hj => ?_)
  by_cases e : j + c ≤ 16
  · exact h.2.2.2.2 j e
  · exact cl_f.mpr (fun q => e q.1)
end
section
/-! calls over one list of words that serves every method -/
def wg_ok (w : Cond) : Bool := (w.onTables && w.keeps) || (match w with | .arrayClass _ => true | _ => false)
theorem wg_sp {w : Cond} (h : wg_ok w = true) : (w.onTables && w.keeps) = true ∨ ∃ ty, w = .arrayClass ty := by
  unfold wg_ok at h
  cases hk : (w.onTables && w.keeps) with
  | true => exact Or.inl rfl
  | false =>
    rw [hk] at h
    cases w <;> simp at h
    exact Or.inr ⟨_, rfl⟩
theorem wg_all {wa : List Cond} (h : wa.all wg_ok = true) : GoodIn wa wa := fun w hw => ⟨hw, wg_sp (List.all_eq_true.mp h w hw)⟩
theorem wg_cons {wa : List Cond} (hg : GoodIn wa wa) {x : Cond} (hx : x ∈ wa) {ws : List Cond} (h : GoodIn wa ws) : GoodIn wa (x :: ws) := fun w hw => by
  rcases List.mem_cons.mp hw with rfl | h1
  · exact hg _ hx
  · exact h w h1
section GZ
variable {p : Program} {l : Launch} {e : Env} {R : Room} {s : State} {m : MethodId} {args : Array Value} {below : List Frame} {meth : Method} {c : Code} {H : Heap} {locs : List Loc} {cells slots : Nat} {Q : State → Prop}
variable {cc : ByteArray} {pc nL : Nat} {ls : Array Slot} {rest st0 : List Value} {D : va_G} {cl : List vw_C} {A : Nat → Prop} {a : Nat} {tys : List (ClassId × FieldType)} {w : va_W} {H0 : Heap} {Z : Option Value → va_W → Prop}
variable {wa : List Cond} {y : MethodName} {bytes : ByteArray} {maxL index n : Nat} {ret : Option FieldType} {own C : String} {rm : Room} {b : Addr} {As : List Value} {r : Int32}
/-- an instance method that reads -/
theorem gx_cV {q0 ci : Nat} {q : vw_C} {fs : List Value} (S : CallFix p m c cc nL s args wa own) (hg : GoodIn wa wa) (hM : Met l y (Cond.code y bytes maxL ret :: wa) rm (va_Pc (.ref b :: As) (gx_I D cl tys w)) (QcRead r) 0 0 (fun _ => False))
    (h1 : Cond.methodLink own index y ∈ wa) (h2 : Cond.instanceMethod y ∈ wa) (h3 : Cond.selects C y y ∈ wa) (h4 : Cond.initialized C ∈ wa) (h5 : Cond.code y bytes maxL ret ∈ wa)
    (hd : y.cls = C ∧ y.cls ≠ "java/lang/invoke/MethodHandle" ∧ y.cls ≠ "java/lang/invoke/VarHandle" ∧ (parseMethodDescriptor y.desc).map (fun d => d.parameters.length) = some As.length)
    (hrc : rm.cells = 0 ∧ rm.slots = 0) (hR : rm.frames + 1 ≤ R.frames ∧ 8 + (maxL + 11) + rm.locals ≤ R.locals) (hf : cells + 0 ≤ R.cells ∧ slots + 0 ≤ R.slots)
    (hK : va_K D cl tys s) (hP : va_P D cl w H) (hD : va_D A w) (hc : cl[ci]? = some q) (hq : q.1 = C) (he : w[q0]? = some (b, .inr (ci, fs)))
    (hsize : ls.size = nL) (hst : st0 = As.reverse ++ .ref b :: rest) (hW : (rest.map fun v => v.category).sum ≤ 8) (hdg : decode cc pc = .ok (.invokevirtual index, 3))
    (k : W p l e R s m args below meth c H locs cells slots Q (F0 m (pc + 3) ls (.int r :: rest))) : W p l e R s m args below meth c H locs cells slots Q (F0 m pc ls st0) := by
  have hG : GoodIn wa (wsV own index C y (Cond.code y bytes maxL ret :: wa)) := wg_cons hg h1 (wg_cons hg h2 (wg_cons hg h3 (wg_cons hg h4 (wg_cons hg h5 hg))))
  refine W.callR (W.runV (C := C) (g := F0 m pc ls st0) (As := As) (rest := rest) S hM (cwV As.length S.2.2.2.2 hG rfl hrc.1 hrc.2 hd hR) ⟨gx_blind, ?_, fun U hU hW => ⟨rfl, by rw [hU]; exact hP, va_K.moved hW.alike hK, hD.weaken (fun _ _ _ _ => trivial)⟩⟩ rfl rfl hsize hst (lv_room hW) hdg hf) k
  subst hq
  exact va_recv hK hP hc he
/-- a static method that reads nothing -/
theorem gx_cS (S : CallFix p m c cc nL s args wa own) (hg : GoodIn wa wa) (hM : Met l y (Cond.code y bytes maxL ret :: wa) rm (fun v _ => v = As.toArray) (QcRead r) 0 0 (fun _ => False))
    (h1 : Cond.methodLink own index y ∈ wa) (h2 : Cond.static y ∈ wa) (h4 : Cond.initialized own ∈ wa) (h5 : Cond.code y bytes maxL ret ∈ wa)
    (hd : y.cls = own ∧ y.cls ≠ "java/lang/invoke/MethodHandle" ∧ y.cls ≠ "java/lang/invoke/VarHandle" ∧ (parseMethodDescriptor y.desc).map (fun d => d.parameters.length) = some As.length)
    (hrc : rm.cells = 0 ∧ rm.slots = 0) (hR : rm.frames + 1 ≤ R.frames ∧ 8 + (maxL + 11) + rm.locals ≤ R.locals) (hf : cells + 0 ≤ R.cells ∧ slots + 0 ≤ R.slots)
    (hsize : ls.size = nL) (hst : st0 = As.reverse ++ rest) (hW : (rest.map fun v => v.category).sum ≤ 8) (hdg : decode cc pc = .ok (.invokestatic index, 3))
    (k : W p l e R s m args below meth c H locs cells slots Q (F0 m (pc + 3) ls (.int r :: rest))) : W p l e R s m args below meth c H locs cells slots Q (F0 m pc ls st0) := by
  have hG : GoodIn wa (wsS own index y (Cond.code y bytes maxL ret :: wa)) := wg_cons hg h1 (wg_cons hg h2 (wg_cons hg h4 (wg_cons hg h5 hg)))
  exact W.callR (W.runS (g := F0 m pc ls st0) (As := As) (rest := rest) S hM (cwS As.length S.2.2.2.2 hG rfl hrc.1 hrc.2 hd hR) preEq rfl rfl hsize hst (lv_room hW) hdg hf) k
/-- an instance method that changes its world -/
theorem gx_cM {q0 ci mc ms : Nat} {q : vw_C} {fs : List Value} {A1 : Nat → Prop} (S : CallFix p m c cc nL s args wa own) (hg : GoodIn wa wa) (hM : Met l y (Cond.code y bytes maxL ret :: wa) rm (va_Pc (.ref b :: As) (gx_I D cl tys w)) (gx_Q D cl A1 w Z) mc ms A1)
    (h1 : Cond.methodLink own index y ∈ wa) (h2 : Cond.instanceMethod y ∈ wa) (h3 : Cond.selects C y y ∈ wa) (h4 : Cond.initialized C ∈ wa) (h5 : Cond.code y bytes maxL ret ∈ wa)
    (hd : y.cls = C ∧ y.cls ≠ "java/lang/invoke/MethodHandle" ∧ y.cls ≠ "java/lang/invoke/VarHandle" ∧ (parseMethodDescriptor y.desc).map (fun d => d.parameters.length) = some As.length)
    (hrc : rm.cells = mc ∧ rm.slots = ms) (hR : rm.frames + 1 ≤ R.frames ∧ 8 + (maxL + 11) + rm.locals ≤ R.locals) (hf : cells + mc ≤ R.cells ∧ slots + ms ≤ R.slots)
    (hK : va_K D cl tys s) (hP : va_P D cl w H) (hD : va_D A w) (hS : va_S A H0 H locs) (hA : ∀ q, A1 q → A q) (hc : cl[ci]? = some q) (hq : q.1 = C) (he : w[q0]? = some (b, .inr (ci, fs)))
    (hsize : ls.size = nL) (hst : st0 = As.reverse ++ .ref b :: rest) (hW : (rest.map fun v => v.category).sum ≤ 8) (hdg : decode cc pc = .ok (.invokevirtual index, 3))
    (k : ∀ (v : Option Value) (w' : va_W) (H1 : Heap) (locs1 : List Loc), Z v w' → va_P D cl w' H1 → va_D A w' → va_S A H0 H1 locs1 → H.size ≤ H1.size → (∀ q : Nat, q < H.size → ¬ A1 q → H1[q]? = H[q]?) → W p l e R s m args below meth c H1 locs1 (cells + mc) (slots + ms) Q (F0 m (pc + 3) ls (v.toList ++ rest))) :
    W p l e R s m args below meth c H locs cells slots Q (F0 m pc ls st0) := by
  have hG : GoodIn wa (wsV own index C y (Cond.code y bytes maxL ret :: wa)) := wg_cons hg h1 (wg_cons hg h2 (wg_cons hg h3 (wg_cons hg h4 (wg_cons hg h5 hg))))
  refine gx_go (W.runV (C := C) (g := F0 m pc ls st0) (As := As) (rest := rest) S hM (cwV As.length S.2.2.2.2 hG rfl hrc.1 hrc.2 hd hR) ⟨gx_blind, ?_, fun U hU hW => ⟨rfl, by rw [hU]; exact hP, va_K.moved hW.alike hK, hD.weaken (fun _ _ _ _ => trivial)⟩⟩ rfl rfl hsize hst (lv_room hW) hdg hf) hD hS hA k
  subst hq
  exact va_recv hK hP hc he
end GZ
end
