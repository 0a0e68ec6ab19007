section
-- ===== PART A: goes FIRST, ahead of the names: the tables' words, and 'selects' of the private methods out of them =====
/-- a private method of a class that the tables say can be made, by its rows of tables_1 -/
def lw_okq (q : MethodName × Nat) : Prop := (q.1.cls ≠ "java/lang/invoke/MethodHandle" ∧ q.1.cls ≠ "java/lang/invoke/VarHandle") ∧ Cond.instantiable q.1.cls q.2 ∈ tables_1 ∧ Cond.privateMethod q.1 ∈ tables_1 ∧ Cond.instanceMethod q.1 ∈ tables_1
theorem lw_p0 : lw_okq (⟨"GuessingHeap", "collectNow", "()I"⟩, 12) := ⟨⟨by decide +kernel, by decide +kernel⟩, List.mem_of_getElem? (i := 22) (by decide +kernel), List.mem_of_getElem? (i := 76) (by decide +kernel), List.mem_of_getElem? (i := 77) (by decide +kernel)⟩
theorem lw_p1 : lw_okq (⟨"GuessingHeap", "forgetMarks", "()V"⟩, 12) := ⟨⟨by decide +kernel, by decide +kernel⟩, List.mem_of_getElem? (i := 22) (by decide +kernel), List.mem_of_getElem? (i := 80) (by decide +kernel), List.mem_of_getElem? (i := 81) (by decide +kernel)⟩
theorem lw_p2 : lw_okq (⟨"GuessingHeap", "lookAtRoots", "()V"⟩, 12) := ⟨⟨by decide +kernel, by decide +kernel⟩, List.mem_of_getElem? (i := 22) (by decide +kernel), List.mem_of_getElem? (i := 84) (by decide +kernel), List.mem_of_getElem? (i := 85) (by decide +kernel)⟩
theorem lw_p3 : lw_okq (⟨"GuessingHeap", "lookAt", "(I)V"⟩, 12) := ⟨⟨by decide +kernel, by decide +kernel⟩, List.mem_of_getElem? (i := 22) (by decide +kernel), List.mem_of_getElem? (i := 88) (by decide +kernel), List.mem_of_getElem? (i := 89) (by decide +kernel)⟩
theorem lw_p4 : lw_okq (⟨"GuessingHeap", "startAt", "(I)I"⟩, 12) := ⟨⟨by decide +kernel, by decide +kernel⟩, List.mem_of_getElem? (i := 22) (by decide +kernel), List.mem_of_getElem? (i := 95) (by decide +kernel), List.mem_of_getElem? (i := 96) (by decide +kernel)⟩
theorem lw_p5 : lw_okq (⟨"GuessingHeap", "mark", "(I)V"⟩, 12) := ⟨⟨by decide +kernel, by decide +kernel⟩, List.mem_of_getElem? (i := 22) (by decide +kernel), List.mem_of_getElem? (i := 99) (by decide +kernel), List.mem_of_getElem? (i := 100) (by decide +kernel)⟩
theorem lw_p6 : lw_okq (⟨"GuessingHeap", "lookAtMarkedObjects", "()V"⟩, 12) := ⟨⟨by decide +kernel, by decide +kernel⟩, List.mem_of_getElem? (i := 22) (by decide +kernel), List.mem_of_getElem? (i := 103) (by decide +kernel), List.mem_of_getElem? (i := 104) (by decide +kernel)⟩
theorem lw_p7 : lw_okq (⟨"GuessingHeap", "lookAtWords", "(II)V"⟩, 12) := ⟨⟨by decide +kernel, by decide +kernel⟩, List.mem_of_getElem? (i := 22) (by decide +kernel), List.mem_of_getElem? (i := 107) (by decide +kernel), List.mem_of_getElem? (i := 108) (by decide +kernel)⟩
theorem lw_p8 : lw_okq (⟨"GuessingHeap", "giveUpUnmarkedObjects", "()V"⟩, 12) := ⟨⟨by decide +kernel, by decide +kernel⟩, List.mem_of_getElem? (i := 22) (by decide +kernel), List.mem_of_getElem? (i := 111) (by decide +kernel), List.mem_of_getElem? (i := 112) (by decide +kernel)⟩
theorem lw_p9 : lw_okq (⟨"GuessingHeap", "giveUp", "(II)V"⟩, 12) := ⟨⟨by decide +kernel, by decide +kernel⟩, List.mem_of_getElem? (i := 22) (by decide +kernel), List.mem_of_getElem? (i := 115) (by decide +kernel), List.mem_of_getElem? (i := 116) (by decide +kernel)⟩
theorem lw_p10 : lw_okq (⟨"java/lang/Throwable", "fillInStackTrace", "(I)Ljava/lang/Throwable;"⟩, 6) := ⟨⟨by decide +kernel, by decide +kernel⟩, List.mem_of_getElem? (i := 164) (by decide +kernel), List.mem_of_getElem? (i := 162) (by decide +kernel), List.mem_of_getElem? (i := 163) (by decide +kernel)⟩
theorem lw_p11 : lw_okq (⟨"GuessingHeap", "freeBlocksWithoutObjects", "()V"⟩, 12) := ⟨⟨by decide +kernel, by decide +kernel⟩, List.mem_of_getElem? (i := 22) (by decide +kernel), List.mem_of_getElem? (i := 455) (by decide +kernel), List.mem_of_getElem? (i := 456) (by decide +kernel)⟩
theorem lw_p12 : lw_okq (⟨"GuessingHeap", "wordsInNoObject", "(I)I"⟩, 12) := ⟨⟨by decide +kernel, by decide +kernel⟩, List.mem_of_getElem? (i := 22) (by decide +kernel), List.mem_of_getElem? (i := 459) (by decide +kernel), List.mem_of_getElem? (i := 460) (by decide +kernel)⟩
theorem lw_p13 : lw_okq (⟨"GuessingHeap", "isSplit", "(I)Z"⟩, 12) := ⟨⟨by decide +kernel, by decide +kernel⟩, List.mem_of_getElem? (i := 22) (by decide +kernel), List.mem_of_getElem? (i := 486) (by decide +kernel), List.mem_of_getElem? (i := 487) (by decide +kernel)⟩
theorem lw_p14 : lw_okq (⟨"GuessingHeap", "findRoom", "(IZ)I"⟩, 12) := ⟨⟨by decide +kernel, by decide +kernel⟩, List.mem_of_getElem? (i := 22) (by decide +kernel), List.mem_of_getElem? (i := 510) (by decide +kernel), List.mem_of_getElem? (i := 511) (by decide +kernel)⟩
theorem lw_p15 : lw_okq (⟨"GuessingHeap", "findBlocks", "(IZ)I"⟩, 12) := ⟨⟨by decide +kernel, by decide +kernel⟩, List.mem_of_getElem? (i := 22) (by decide +kernel), List.mem_of_getElem? (i := 517) (by decide +kernel), List.mem_of_getElem? (i := 518) (by decide +kernel)⟩
def lw_privs_1 : List (MethodName × Nat) := [(⟨"GuessingHeap", "collectNow", "()I"⟩, 12), (⟨"GuessingHeap", "forgetMarks", "()V"⟩, 12), (⟨"GuessingHeap", "lookAtRoots", "()V"⟩, 12), (⟨"GuessingHeap", "lookAt", "(I)V"⟩, 12), (⟨"GuessingHeap", "startAt", "(I)I"⟩, 12), (⟨"GuessingHeap", "mark", "(I)V"⟩, 12), (⟨"GuessingHeap", "lookAtMarkedObjects", "()V"⟩, 12), (⟨"GuessingHeap", "lookAtWords", "(II)V"⟩, 12), (⟨"GuessingHeap", "giveUpUnmarkedObjects", "()V"⟩, 12), (⟨"GuessingHeap", "giveUp", "(II)V"⟩, 12), (⟨"java/lang/Throwable", "fillInStackTrace", "(I)Ljava/lang/Throwable;"⟩, 6), (⟨"GuessingHeap", "freeBlocksWithoutObjects", "()V"⟩, 12), (⟨"GuessingHeap", "wordsInNoObject", "(I)I"⟩, 12), (⟨"GuessingHeap", "isSplit", "(I)Z"⟩, 12), (⟨"GuessingHeap", "findRoom", "(IZ)I"⟩, 12), (⟨"GuessingHeap", "findBlocks", "(IZ)I"⟩, 12)]
theorem lw_r1 : ∀ q ∈ lw_privs_1, lw_okq q := List.forall_mem_cons.mpr ⟨lw_p0, List.forall_mem_cons.mpr ⟨lw_p1, List.forall_mem_cons.mpr ⟨lw_p2, List.forall_mem_cons.mpr ⟨lw_p3, List.forall_mem_cons.mpr ⟨lw_p4, List.forall_mem_cons.mpr ⟨lw_p5, List.forall_mem_cons.mpr ⟨lw_p6, List.forall_mem_cons.mpr ⟨lw_p7, List.forall_mem_cons.mpr ⟨lw_p8, List.forall_mem_cons.mpr ⟨lw_p9, List.forall_mem_cons.mpr ⟨lw_p10, List.forall_mem_cons.mpr ⟨lw_p11, List.forall_mem_cons.mpr ⟨lw_p12, List.forall_mem_cons.mpr ⟨lw_p13, List.forall_mem_cons.mpr ⟨lw_p14, List.forall_mem_cons.mpr ⟨lw_p15, fun _ h => absurd h List.not_mem_nil⟩⟩⟩⟩⟩⟩⟩⟩⟩⟩⟩⟩⟩⟩⟩⟩
theorem lw_p16 : lw_okq (⟨"GuessingHeap", "findEmptySlot", "(I)I"⟩, 12) := ⟨⟨by decide +kernel, by decide +kernel⟩, List.mem_of_getElem? (i := 22) (by decide +kernel), List.mem_of_getElem? (i := 524) (by decide +kernel), List.mem_of_getElem? (i := 525) (by decide +kernel)⟩
theorem lw_p17 : lw_okq (⟨"GuessingHeap", "placeSmall", "(IIZ)V"⟩, 12) := ⟨⟨by decide +kernel, by decide +kernel⟩, List.mem_of_getElem? (i := 22) (by decide +kernel), List.mem_of_getElem? (i := 544) (by decide +kernel), List.mem_of_getElem? (i := 545) (by decide +kernel)⟩
theorem lw_p18 : lw_okq (⟨"GuessingHeap", "takeBlock", "(II)V"⟩, 12) := ⟨⟨by decide +kernel, by decide +kernel⟩, List.mem_of_getElem? (i := 22) (by decide +kernel), List.mem_of_getElem? (i := 548) (by decide +kernel), List.mem_of_getElem? (i := 549) (by decide +kernel)⟩
theorem lw_p19 : lw_okq (⟨"GuessingHeap", "placeObject", "(IIZ)V"⟩, 12) := ⟨⟨by decide +kernel, by decide +kernel⟩, List.mem_of_getElem? (i := 22) (by decide +kernel), List.mem_of_getElem? (i := 552) (by decide +kernel), List.mem_of_getElem? (i := 553) (by decide +kernel)⟩
theorem lw_p20 : lw_okq (⟨"GuessingHeap", "placeLarge", "(IIZ)V"⟩, 12) := ⟨⟨by decide +kernel, by decide +kernel⟩, List.mem_of_getElem? (i := 22) (by decide +kernel), List.mem_of_getElem? (i := 556) (by decide +kernel), List.mem_of_getElem? (i := 557) (by decide +kernel)⟩
theorem lw_p21 : lw_okq (⟨"GuessingHeap", "checkInObject", "(I)V"⟩, 12) := ⟨⟨by decide +kernel, by decide +kernel⟩, List.mem_of_getElem? (i := 22) (by decide +kernel), List.mem_of_getElem? (i := 598) (by decide +kernel), List.mem_of_getElem? (i := 599) (by decide +kernel)⟩
theorem lw_p22 : lw_okq (⟨"GuessingHeapModel", "room", "(IZ)I"⟩, 11) := ⟨⟨by decide +kernel, by decide +kernel⟩, List.mem_of_getElem? (i := 611) (by decide +kernel), List.mem_of_getElem? (i := 659) (by decide +kernel), List.mem_of_getElem? (i := 660) (by decide +kernel)⟩
theorem lw_p23 : lw_okq (⟨"GuessingHeapModel", "smallRoom", "(IZ)I"⟩, 11) := ⟨⟨by decide +kernel, by decide +kernel⟩, List.mem_of_getElem? (i := 611) (by decide +kernel), List.mem_of_getElem? (i := 666) (by decide +kernel), List.mem_of_getElem? (i := 667) (by decide +kernel)⟩
theorem lw_p24 : lw_okq (⟨"GuessingHeapModel", "isOpen", "(IZ)Z"⟩, 11) := ⟨⟨by decide +kernel, by decide +kernel⟩, List.mem_of_getElem? (i := 611) (by decide +kernel), List.mem_of_getElem? (i := 670) (by decide +kernel), List.mem_of_getElem? (i := 671) (by decide +kernel)⟩
theorem lw_p25 : lw_okq (⟨"GuessingHeapModel", "largeRoom", "(IZ)I"⟩, 11) := ⟨⟨by decide +kernel, by decide +kernel⟩, List.mem_of_getElem? (i := 611) (by decide +kernel), List.mem_of_getElem? (i := 674) (by decide +kernel), List.mem_of_getElem? (i := 675) (by decide +kernel)⟩
theorem lw_p26 : lw_okq (⟨"GuessingHeapModel", "gather", "()V"⟩, 11) := ⟨⟨by decide +kernel, by decide +kernel⟩, List.mem_of_getElem? (i := 611) (by decide +kernel), List.mem_of_getElem? (i := 678) (by decide +kernel), List.mem_of_getElem? (i := 679) (by decide +kernel)⟩
theorem lw_p27 : lw_okq (⟨"GuessingHeapModel", "lookAtAll", "()Z"⟩, 11) := ⟨⟨by decide +kernel, by decide +kernel⟩, List.mem_of_getElem? (i := 611) (by decide +kernel), List.mem_of_getElem? (i := 682) (by decide +kernel), List.mem_of_getElem? (i := 683) (by decide +kernel)⟩
theorem lw_p28 : lw_okq (⟨"GuessingHeapModel", "look", "(I)Z"⟩, 11) := ⟨⟨by decide +kernel, by decide +kernel⟩, List.mem_of_getElem? (i := 611) (by decide +kernel), List.mem_of_getElem? (i := 686) (by decide +kernel), List.mem_of_getElem? (i := 687) (by decide +kernel)⟩
theorem lw_p29 : lw_okq (⟨"GuessingHeapModel", "objectAt", "(I)I"⟩, 11) := ⟨⟨by decide +kernel, by decide +kernel⟩, List.mem_of_getElem? (i := 611) (by decide +kernel), List.mem_of_getElem? (i := 693) (by decide +kernel), List.mem_of_getElem? (i := 694) (by decide +kernel)⟩
theorem lw_p30 : lw_okq (⟨"GuessingHeapModel", "giveUp", "(I)V"⟩, 11) := ⟨⟨by decide +kernel, by decide +kernel⟩, List.mem_of_getElem? (i := 611) (by decide +kernel), List.mem_of_getElem? (i := 697) (by decide +kernel), List.mem_of_getElem? (i := 698) (by decide +kernel)⟩
theorem lw_p31 : lw_okq (⟨"GuessingHeapModel", "isBare", "(I)Z"⟩, 11) := ⟨⟨by decide +kernel, by decide +kernel⟩, List.mem_of_getElem? (i := 611) (by decide +kernel), List.mem_of_getElem? (i := 701) (by decide +kernel), List.mem_of_getElem? (i := 702) (by decide +kernel)⟩
def lw_privs_2 : List (MethodName × Nat) := [(⟨"GuessingHeap", "findEmptySlot", "(I)I"⟩, 12), (⟨"GuessingHeap", "placeSmall", "(IIZ)V"⟩, 12), (⟨"GuessingHeap", "takeBlock", "(II)V"⟩, 12), (⟨"GuessingHeap", "placeObject", "(IIZ)V"⟩, 12), (⟨"GuessingHeap", "placeLarge", "(IIZ)V"⟩, 12), (⟨"GuessingHeap", "checkInObject", "(I)V"⟩, 12), (⟨"GuessingHeapModel", "room", "(IZ)I"⟩, 11), (⟨"GuessingHeapModel", "smallRoom", "(IZ)I"⟩, 11), (⟨"GuessingHeapModel", "isOpen", "(IZ)Z"⟩, 11), (⟨"GuessingHeapModel", "largeRoom", "(IZ)I"⟩, 11), (⟨"GuessingHeapModel", "gather", "()V"⟩, 11), (⟨"GuessingHeapModel", "lookAtAll", "()Z"⟩, 11), (⟨"GuessingHeapModel", "look", "(I)Z"⟩, 11), (⟨"GuessingHeapModel", "objectAt", "(I)I"⟩, 11), (⟨"GuessingHeapModel", "giveUp", "(I)V"⟩, 11), (⟨"GuessingHeapModel", "isBare", "(I)Z"⟩, 11)]
theorem lw_r2 : ∀ q ∈ lw_privs_2, lw_okq q := List.forall_mem_cons.mpr ⟨lw_p16, List.forall_mem_cons.mpr ⟨lw_p17, List.forall_mem_cons.mpr ⟨lw_p18, List.forall_mem_cons.mpr ⟨lw_p19, List.forall_mem_cons.mpr ⟨lw_p20, List.forall_mem_cons.mpr ⟨lw_p21, List.forall_mem_cons.mpr ⟨lw_p22, List.forall_mem_cons.mpr ⟨lw_p23, List.forall_mem_cons.mpr ⟨lw_p24, List.forall_mem_cons.mpr ⟨lw_p25, List.forall_mem_cons.mpr ⟨lw_p26, List.forall_mem_cons.mpr ⟨lw_p27, List.forall_mem_cons.mpr ⟨lw_p28, List.forall_mem_cons.mpr ⟨lw_p29, List.forall_mem_cons.mpr ⟨lw_p30, List.forall_mem_cons.mpr ⟨lw_p31, fun _ h => absurd h List.not_mem_nil⟩⟩⟩⟩⟩⟩⟩⟩⟩⟩⟩⟩⟩⟩⟩⟩
theorem lw_p32 : lw_okq (⟨"GuessingHeapModel", "settle", "(IIZ)V"⟩, 11) := ⟨⟨by decide +kernel, by decide +kernel⟩, List.mem_of_getElem? (i := 611) (by decide +kernel), List.mem_of_getElem? (i := 705) (by decide +kernel), List.mem_of_getElem? (i := 706) (by decide +kernel)⟩
theorem lw_p33 : lw_okq (⟨"GuessingHeapModel", "bar", "(I)I"⟩, 11) := ⟨⟨by decide +kernel, by decide +kernel⟩, List.mem_of_getElem? (i := 611) (by decide +kernel), List.mem_of_getElem? (i := 725) (by decide +kernel), List.mem_of_getElem? (i := 726) (by decide +kernel)⟩
def lw_privs_3 : List (MethodName × Nat) := [(⟨"GuessingHeapModel", "settle", "(IIZ)V"⟩, 11), (⟨"GuessingHeapModel", "bar", "(I)I"⟩, 11)]
theorem lw_r3 : ∀ q ∈ lw_privs_3, lw_okq q := List.forall_mem_cons.mpr ⟨lw_p32, List.forall_mem_cons.mpr ⟨lw_p33, fun _ h => absurd h List.not_mem_nil⟩⟩
def lw_privs : List (MethodName × Nat) := lw_privs_1 ++ (lw_privs_2 ++ (lw_privs_3))
def lw_tbl : List Cond := k2_sels lw_privs ++ tables_1
theorem lw_privs_ok : ∀ q ∈ lw_privs, lw_okq q := by
  show ∀ q ∈ lw_privs_1 ++ (lw_privs_2 ++ (lw_privs_3)), lw_okq q
  exact List.forall_mem_append.mpr ⟨lw_r1, List.forall_mem_append.mpr ⟨lw_r2, lw_r3⟩⟩
end
section
/-! names: classes, fields, methods, the words that serve all methods; written by a program out of the tables and javap's listing -/
def R_L : String := "GuessingHeapLaw"
def R_G : String := "GuessingHeap"
def R_M : String := "GuessingHeapModel"
def R_A : String := "java/util/Arrays"
def F_G : u_T := fun k => match k with
  | 0 => ("GuessingHeap", "roots", "[I", true)
  | 1 => ("GuessingHeap", "kinds", "[I", true)
  | 2 => ("GuessingHeap", "doubtful", "[Z", true)
  | 3 => ("GuessingHeap", "words", "[I", true)
  | 4 => ("GuessingHeap", "starts", "[I", true)
  | 5 => ("GuessingHeap", "lengths", "[I", true)
  | 6 => ("GuessingHeap", "unread", "[Z", true)
  | 7 => ("GuessingHeap", "marked", "[Z", true)
  | 8 => ("GuessingHeap", "found", "[I", true)
  | 9 => ("GuessingHeap", "foundCount", "I", false)
  | 10 => ("GuessingHeap", "objectCount", "I", false)
  | _ => ("GuessingHeap", "collectionCount", "I", false)
def t_G : Nat → FieldType := fun k => match k with
  | 0 => .array .int
  | 1 => .array .int
  | 2 => .array .boolean
  | 3 => .array .int
  | 4 => .array .int
  | 5 => .array .int
  | 6 => .array .boolean
  | 7 => .array .boolean
  | 8 => .array .int
  | 9 => .int
  | 10 => .int
  | _ => .int
theorem n_G_ne : ∀ a, a < 12 → ∀ b, b < 12 → a ≠ b → (F_G a).2.1 ≠ (F_G b).2.1 := by decide +kernel
theorem t_G_ok : ∀ k, k < 12 → parseFieldDescriptor (F_G k).2.2.1 = some (t_G k) := by decide +kernel
def F_M : u_T := fun k => match k with
  | 0 => ("GuessingHeapModel", "thrown", "I", false)
  | 1 => ("GuessingHeapModel", "roots", "[I", false)
  | 2 => ("GuessingHeapModel", "word", "[I", false)
  | 3 => ("GuessingHeapModel", "of", "[I", false)
  | 4 => ("GuessingHeapModel", "many", "[I", false)
  | 5 => ("GuessingHeapModel", "quiet", "[Z", false)
  | 6 => ("GuessingHeapModel", "marked", "[Z", false)
  | 7 => ("GuessingHeapModel", "kind", "[I", false)
  | 8 => ("GuessingHeapModel", "doubtful", "[Z", false)
  | 9 => ("GuessingHeapModel", "collected", "I", false)
  | _ => ("GuessingHeapModel", "given", "I", false)
def t_M : Nat → FieldType := fun k => match k with
  | 0 => .int
  | 1 => .array .int
  | 2 => .array .int
  | 3 => .array .int
  | 4 => .array .int
  | 5 => .array .boolean
  | 6 => .array .boolean
  | 7 => .array .int
  | 8 => .array .boolean
  | 9 => .int
  | _ => .int
theorem n_M_ne : ∀ a, a < 11 → ∀ b, b < 11 → a ≠ b → (F_M a).2.1 ≠ (F_M b).2.1 := by decide +kernel
theorem t_M_ok : ∀ k, k < 11 → parseFieldDescriptor (F_M k).2.2.1 = some (t_M k) := by decide +kernel
abbrev cl_all : List vw_C := [(R_G, F_G, 12), (R_M, F_M, 11)]
abbrev b_G_init : ByteArray := prog_1_method_1_code
def y_G_init : MethodName := ⟨R_G, "<init>", "()V"⟩
abbrev b_A_fill1 : ByteArray := prog_20_method_103_code
def y_A_fill1 : MethodName := ⟨R_A, "fill", "([II)V"⟩
abbrev b_G_collect : ByteArray := prog_1_method_7_code
def y_G_collect : MethodName := ⟨R_G, "collect", "()I"⟩
abbrev b_G_collectNow : ByteArray := prog_1_method_31_code
def y_G_collectNow : MethodName := ⟨R_G, "collectNow", "()I"⟩
abbrev b_G_forgetMarks : ByteArray := prog_1_method_32_code
def y_G_forgetMarks : MethodName := ⟨R_G, "forgetMarks", "()V"⟩
abbrev b_G_lookAtRoots : ByteArray := prog_1_method_33_code
def y_G_lookAtRoots : MethodName := ⟨R_G, "lookAtRoots", "()V"⟩
abbrev b_G_lookAt : ByteArray := prog_1_method_36_code
def y_G_lookAt : MethodName := ⟨R_G, "lookAt", "(I)V"⟩
abbrev b_G_isAddress : ByteArray := prog_1_method_15_code
def y_G_isAddress : MethodName := ⟨R_G, "isAddress", "(I)Z"⟩
abbrev b_G_startAt : ByteArray := prog_1_method_19_code
def y_G_startAt : MethodName := ⟨R_G, "startAt", "(I)I"⟩
abbrev b_G_mark : ByteArray := prog_1_method_37_code
def y_G_mark : MethodName := ⟨R_G, "mark", "(I)V"⟩
abbrev b_G_lookAtMarkedObjects : ByteArray := prog_1_method_34_code
def y_G_lookAtMarkedObjects : MethodName := ⟨R_G, "lookAtMarkedObjects", "()V"⟩
abbrev b_G_lookAtWords : ByteArray := prog_1_method_35_code
def y_G_lookAtWords : MethodName := ⟨R_G, "lookAtWords", "(II)V"⟩
abbrev b_G_giveUpUnmarkedObjects : ByteArray := prog_1_method_38_code
def y_G_giveUpUnmarkedObjects : MethodName := ⟨R_G, "giveUpUnmarkedObjects", "()V"⟩
abbrev b_G_giveUp : ByteArray := prog_1_method_39_code
def y_G_giveUp : MethodName := ⟨R_G, "giveUp", "(II)V"⟩
abbrev b_A_fill3 : ByteArray := prog_20_method_104_code
def y_A_fill3 : MethodName := ⟨R_A, "fill", "([IIII)V"⟩
abbrev b_A_rangeCheck : ByteArray := prog_20_method_30_code
def y_A_rangeCheck : MethodName := ⟨R_A, "rangeCheck", "(III)V"⟩
abbrev b_G_freeBlocksWithoutObjects : ByteArray := prog_1_method_40_code
def y_G_freeBlocksWithoutObjects : MethodName := ⟨R_G, "freeBlocksWithoutObjects", "()V"⟩
abbrev b_G_wordsInNoObject : ByteArray := prog_1_method_21_code
def y_G_wordsInNoObject : MethodName := ⟨R_G, "wordsInNoObject", "(I)I"⟩
abbrev b_G_base : ByteArray := prog_1_method_8_code
def y_G_base : MethodName := ⟨R_G, "base", "(I)I"⟩
abbrev b_G_size : ByteArray := prog_1_method_9_code
def y_G_size : MethodName := ⟨R_G, "size", "(I)I"⟩
abbrev b_G_silent : ByteArray := prog_1_method_10_code
def y_G_silent : MethodName := ⟨R_G, "silent", "(I)Z"⟩
abbrev b_G_block : ByteArray := prog_1_method_11_code
def y_G_block : MethodName := ⟨R_G, "block", "(I)I"⟩
abbrev b_G_isBlock : ByteArray := prog_1_method_16_code
def y_G_isBlock : MethodName := ⟨R_G, "isBlock", "(I)Z"⟩
abbrev b_G_empty : ByteArray := prog_1_method_12_code
def y_G_empty : MethodName := ⟨R_G, "empty", "(I)I"⟩
abbrev b_G_isSplit : ByteArray := prog_1_method_20_code
def y_G_isSplit : MethodName := ⟨R_G, "isSplit", "(I)Z"⟩
abbrev b_G_objects : ByteArray := prog_1_method_13_code
def y_G_objects : MethodName := ⟨R_G, "objects", "()I"⟩
abbrev b_G_collections : ByteArray := prog_1_method_14_code
def y_G_collections : MethodName := ⟨R_G, "collections", "()I"⟩
abbrev b_L_allocate : ByteArray := method_3_code
def y_L_allocate : MethodName := ⟨R_L, "allocate", "(LGuessingHeap;IZ[J)I"⟩
abbrev b_G_allocate : ByteArray := prog_1_method_2_code
def y_G_allocate : MethodName := ⟨R_G, "allocate", "(IZ)I"⟩
abbrev b_G_findRoom : ByteArray := prog_1_method_24_code
def y_G_findRoom : MethodName := ⟨R_G, "findRoom", "(IZ)I"⟩
abbrev b_G_blocksFor : ByteArray := prog_1_method_23_code
def y_G_blocksFor : MethodName := ⟨R_G, "blocksFor", "(I)I"⟩
abbrev b_G_findBlocks : ByteArray := prog_1_method_26_code
def y_G_findBlocks : MethodName := ⟨R_G, "findBlocks", "(IZ)I"⟩
abbrev b_G_slotSize : ByteArray := prog_1_method_22_code
def y_G_slotSize : MethodName := ⟨R_G, "slotSize", "(I)I"⟩
abbrev b_G_findEmptySlot : ByteArray := prog_1_method_25_code
def y_G_findEmptySlot : MethodName := ⟨R_G, "findEmptySlot", "(I)I"⟩
abbrev b_G_placeSmall : ByteArray := prog_1_method_27_code
def y_G_placeSmall : MethodName := ⟨R_G, "placeSmall", "(IIZ)V"⟩
abbrev b_G_takeBlock : ByteArray := prog_1_method_29_code
def y_G_takeBlock : MethodName := ⟨R_G, "takeBlock", "(II)V"⟩
abbrev b_G_placeObject : ByteArray := prog_1_method_30_code
def y_G_placeObject : MethodName := ⟨R_G, "placeObject", "(IIZ)V"⟩
abbrev b_G_placeLarge : ByteArray := prog_1_method_28_code
def y_G_placeLarge : MethodName := ⟨R_G, "placeLarge", "(IIZ)V"⟩
abbrev b_L_root : ByteArray := method_4_code
def y_L_root : MethodName := ⟨R_L, "root", "(LGuessingHeap;II)I"⟩
abbrev b_G_root : ByteArray := prog_1_method_3_code
def y_G_root : MethodName := ⟨R_G, "root", "(II)V"⟩
abbrev b_G_checkRoot : ByteArray := prog_1_method_17_code
def y_G_checkRoot : MethodName := ⟨R_G, "checkRoot", "(I)V"⟩
abbrev b_L_rooted : ByteArray := method_5_code
def y_L_rooted : MethodName := ⟨R_L, "rooted", "(LGuessingHeap;I[J)I"⟩
abbrev b_G_rooted : ByteArray := prog_1_method_4_code
def y_G_rooted : MethodName := ⟨R_G, "rooted", "(I)I"⟩
abbrev b_L_read : ByteArray := method_6_code
def y_L_read : MethodName := ⟨R_L, "read", "(LGuessingHeap;I[J)I"⟩
abbrev b_G_read : ByteArray := prog_1_method_5_code
def y_G_read : MethodName := ⟨R_G, "read", "(I)I"⟩
abbrev b_G_checkInObject : ByteArray := prog_1_method_18_code
def y_G_checkInObject : MethodName := ⟨R_G, "checkInObject", "(I)V"⟩
abbrev b_L_write : ByteArray := method_7_code
def y_L_write : MethodName := ⟨R_L, "write", "(LGuessingHeap;II[J)I"⟩
abbrev b_G_write : ByteArray := prog_1_method_6_code
def y_G_write : MethodName := ⟨R_G, "write", "(II)I"⟩
abbrev b_M_init : ByteArray := prog_3_method_1_code
def y_M_init : MethodName := ⟨R_M, "<init>", "()V"⟩
abbrev b_M_thrown : ByteArray := prog_3_method_2_code
def y_M_thrown : MethodName := ⟨R_M, "thrown", "()I"⟩
abbrev b_M_allocate : ByteArray := prog_3_method_16_code
def y_M_allocate : MethodName := ⟨R_M, "allocate", "(IZ)I"⟩
abbrev b_M_room : ByteArray := prog_3_method_14_code
def y_M_room : MethodName := ⟨R_M, "room", "(IZ)I"⟩
abbrev b_M_sizeFor : ByteArray := prog_3_method_11_code
def y_M_sizeFor : MethodName := ⟨R_M, "sizeFor", "(I)I"⟩
abbrev b_M_smallRoom : ByteArray := prog_3_method_12_code
def y_M_smallRoom : MethodName := ⟨R_M, "smallRoom", "(IZ)I"⟩
abbrev b_M_isOpen : ByteArray := prog_3_method_10_code
def y_M_isOpen : MethodName := ⟨R_M, "isOpen", "(IZ)Z"⟩
abbrev b_M_largeRoom : ByteArray := prog_3_method_13_code
def y_M_largeRoom : MethodName := ⟨R_M, "largeRoom", "(IZ)I"⟩
abbrev b_M_gather : ByteArray := prog_3_method_9_code
def y_M_gather : MethodName := ⟨R_M, "gather", "()V"⟩
abbrev b_M_lookAtAll : ByteArray := prog_3_method_6_code
def y_M_lookAtAll : MethodName := ⟨R_M, "lookAtAll", "()Z"⟩
abbrev b_M_look : ByteArray := prog_3_method_5_code
def y_M_look : MethodName := ⟨R_M, "look", "(I)Z"⟩
abbrev b_M_isAddress : ByteArray := prog_3_method_3_code
def y_M_isAddress : MethodName := ⟨R_M, "isAddress", "(I)Z"⟩
abbrev b_M_objectAt : ByteArray := prog_3_method_4_code
def y_M_objectAt : MethodName := ⟨R_M, "objectAt", "(I)I"⟩
abbrev b_M_giveUp : ByteArray := prog_3_method_7_code
def y_M_giveUp : MethodName := ⟨R_M, "giveUp", "(I)V"⟩
abbrev b_M_isBare : ByteArray := prog_3_method_8_code
def y_M_isBare : MethodName := ⟨R_M, "isBare", "(I)Z"⟩
abbrev b_M_settle : ByteArray := prog_3_method_15_code
def y_M_settle : MethodName := ⟨R_M, "settle", "(IIZ)V"⟩
abbrev b_M_collect : ByteArray := prog_3_method_17_code
def y_M_collect : MethodName := ⟨R_M, "collect", "()I"⟩
abbrev b_M_root : ByteArray := prog_3_method_18_code
def y_M_root : MethodName := ⟨R_M, "root", "(II)V"⟩
abbrev b_M_rooted : ByteArray := prog_3_method_19_code
def y_M_rooted : MethodName := ⟨R_M, "rooted", "(I)I"⟩
abbrev b_M_read : ByteArray := prog_3_method_21_code
def y_M_read : MethodName := ⟨R_M, "read", "(I)I"⟩
abbrev b_M_bar : ByteArray := prog_3_method_20_code
def y_M_bar : MethodName := ⟨R_M, "bar", "(I)I"⟩
abbrev b_M_write : ByteArray := prog_3_method_22_code
def y_M_write : MethodName := ⟨R_M, "write", "(II)I"⟩
abbrev b_M_base : ByteArray := prog_3_method_23_code
def y_M_base : MethodName := ⟨R_M, "base", "(I)I"⟩
abbrev b_M_size : ByteArray := prog_3_method_24_code
def y_M_size : MethodName := ⟨R_M, "size", "(I)I"⟩
abbrev b_M_silent : ByteArray := prog_3_method_25_code
def y_M_silent : MethodName := ⟨R_M, "silent", "(I)Z"⟩
abbrev b_M_block : ByteArray := prog_3_method_26_code
def y_M_block : MethodName := ⟨R_M, "block", "(I)I"⟩
abbrev b_M_empty : ByteArray := prog_3_method_27_code
def y_M_empty : MethodName := ⟨R_M, "empty", "(I)I"⟩
abbrev b_M_objects : ByteArray := prog_3_method_28_code
def y_M_objects : MethodName := ⟨R_M, "objects", "()I"⟩
abbrev b_M_collections : ByteArray := prog_3_method_29_code
def y_M_collections : MethodName := ⟨R_M, "collections", "()I"⟩
def wa_0 : List Cond := [.selects R_G y_G_collectNow y_G_collectNow, .selects R_G y_G_forgetMarks y_G_forgetMarks, .selects R_G y_G_lookAtRoots y_G_lookAtRoots, .selects R_G y_G_lookAt y_G_lookAt, .selects R_G y_G_startAt y_G_startAt, .selects R_G y_G_mark y_G_mark, .selects R_G y_G_lookAtMarkedObjects y_G_lookAtMarkedObjects, .selects R_G y_G_lookAtWords y_G_lookAtWords, .selects R_G y_G_giveUpUnmarkedObjects y_G_giveUpUnmarkedObjects, .selects R_G y_G_giveUp y_G_giveUp, .selects R_G y_G_freeBlocksWithoutObjects y_G_freeBlocksWithoutObjects, .selects R_G y_G_wordsInNoObject y_G_wordsInNoObject, .selects R_G y_G_isSplit y_G_isSplit, .selects R_G y_G_findRoom y_G_findRoom, .selects R_G y_G_findBlocks y_G_findBlocks, .selects R_G y_G_findEmptySlot y_G_findEmptySlot, .selects R_G y_G_placeSmall y_G_placeSmall, .selects R_G y_G_takeBlock y_G_takeBlock, .selects R_G y_G_placeObject y_G_placeObject, .selects R_G y_G_placeLarge y_G_placeLarge, .selects R_G y_G_checkInObject y_G_checkInObject, .selects R_M y_M_room y_M_room, .selects R_M y_M_smallRoom y_M_smallRoom, .selects R_M y_M_isOpen y_M_isOpen, .selects R_M y_M_largeRoom y_M_largeRoom, .selects R_M y_M_gather y_M_gather, .selects R_M y_M_lookAtAll y_M_lookAtAll, .selects R_M y_M_look y_M_look, .selects R_M y_M_objectAt y_M_objectAt, .selects R_M y_M_giveUp y_M_giveUp, .selects R_M y_M_isBare y_M_isBare, .selects R_M y_M_settle y_M_settle, .selects R_M y_M_bar y_M_bar, .initialized R_L, .initialized R_G, .initialized R_A, .initialized R_M, .initialized "java/lang/Throwable", .initialized "java/lang/Exception", .initialized "java/lang/RuntimeException"]
def wa_1 : List Cond := [.initialized "java/lang/IllegalArgumentException", .initialized "java/lang/System", .initialized "java/lang/IndexOutOfBoundsException", .initialized "java/lang/IllegalStateException", .classLink R_L 8 R_G, .instantiable R_G 12, .methodLink R_L 34 y_G_init, .instanceMethod y_G_init, .code y_G_init prog_1_method_1_code 1 none, .methodLink R_G 3 objectInit, .instanceMethod objectInit, .code objectInit object_method_1_code 1 none, .methodLink R_G 48 y_A_fill1, .static y_A_fill1, .code y_A_fill1 prog_20_method_103_code 4 none, .fieldLink R_G 9 R_G "roots" "[I", .fieldLink R_G 13 R_G "kinds" "[I", .fieldLink R_G 16 R_G "doubtful" "[Z", .fieldLink R_G 20 R_G "words" "[I", .fieldLink R_G 23 R_G "starts" "[I", .fieldLink R_G 26 R_G "lengths" "[I", .fieldLink R_G 29 R_G "unread" "[Z", .fieldLink R_G 32 R_G "marked" "[Z", .fieldLink R_G 35 R_G "found" "[I", .fieldLink R_G 38 R_G "foundCount" "I", .fieldLink R_G 42 R_G "objectCount" "I", .fieldLink R_G 45 R_G "collectionCount" "I", .laysFinal R_G R_G "roots" "[I", .soleField R_G "roots", .laysFinal R_G R_G "kinds" "[I", .soleField R_G "kinds", .laysFinal R_G R_G "doubtful" "[Z", .soleField R_G "doubtful", .laysFinal R_G R_G "words" "[I", .soleField R_G "words", .laysFinal R_G R_G "starts" "[I", .soleField R_G "starts", .laysFinal R_G R_G "lengths" "[I", .soleField R_G "lengths", .laysFinal R_G R_G "unread" "[Z"]
def wa_2 : List Cond := [.soleField R_G "unread", .laysFinal R_G R_G "marked" "[Z", .soleField R_G "marked", .laysFinal R_G R_G "found" "[I", .soleField R_G "found", .lays R_G R_G "foundCount" "I", .soleField R_G "foundCount", .lays R_G R_G "objectCount" "I", .soleField R_G "objectCount", .lays R_G R_G "collectionCount" "I", .soleField R_G "collectionCount", .superclass R_G "java/lang/Object", .arrayClass .int, .arrayClass .boolean, .methodLink R_L 63 y_G_collect, .instanceMethod y_G_collect, .selects R_G y_G_collect y_G_collect, .code y_G_collect prog_1_method_7_code 1 (some .int), .methodLink R_G 65 y_G_collectNow, .instanceMethod y_G_collectNow, .code y_G_collectNow prog_1_method_31_code 2 (some .int), .methodLink R_G 136 y_G_forgetMarks, .instanceMethod y_G_forgetMarks, .code y_G_forgetMarks prog_1_method_32_code 2 none, .methodLink R_G 139 y_G_lookAtRoots, .instanceMethod y_G_lookAtRoots, .code y_G_lookAtRoots prog_1_method_33_code 2 none, .methodLink R_G 151 y_G_lookAt, .instanceMethod y_G_lookAt, .code y_G_lookAt prog_1_method_36_code 4 none, .methodLink R_G 113 y_G_isAddress, .static y_G_isAddress, .code y_G_isAddress prog_1_method_15_code 1 (some .boolean), .methodLink R_G 95 y_G_startAt, .instanceMethod y_G_startAt, .code y_G_startAt prog_1_method_19_code 2 (some .int), .methodLink R_G 157 y_G_mark, .instanceMethod y_G_mark, .code y_G_mark prog_1_method_37_code 2 none, .methodLink R_G 142 y_G_lookAtMarkedObjects]
def wa_3 : List Cond := [.instanceMethod y_G_lookAtMarkedObjects, .code y_G_lookAtMarkedObjects prog_1_method_34_code 3 none, .methodLink R_G 154 y_G_lookAtWords, .instanceMethod y_G_lookAtWords, .code y_G_lookAtWords prog_1_method_35_code 4 none, .methodLink R_G 145 y_G_giveUpUnmarkedObjects, .instanceMethod y_G_giveUpUnmarkedObjects, .code y_G_giveUpUnmarkedObjects prog_1_method_38_code 2 none, .methodLink R_G 160 y_G_giveUp, .instanceMethod y_G_giveUp, .code y_G_giveUp prog_1_method_39_code 3 none, .methodLink R_G 133 y_A_fill3, .static y_A_fill3, .code y_A_fill3 prog_20_method_104_code 5 none, .methodLink R_A 13 y_A_rangeCheck, .static y_A_rangeCheck, .code y_A_rangeCheck prog_20_method_30_code 3 none, .classLink R_A 43 "java/lang/IllegalArgumentException", .instantiable "java/lang/IllegalArgumentException" 6, .selects "java/lang/IllegalArgumentException" ⟨"java/lang/Throwable", "fillInStackTrace", "(I)Ljava/lang/Throwable;"⟩ ⟨"java/lang/Throwable", "fillInStackTrace", "(I)Ljava/lang/Throwable;"⟩, .selects "java/lang/IllegalArgumentException" ⟨"java/lang/Throwable", "fillInStackTrace", "()Ljava/lang/Throwable;"⟩ ⟨"java/lang/Throwable", "fillInStackTrace", "()Ljava/lang/Throwable;"⟩, .lays "java/lang/IllegalArgumentException" "java/lang/Throwable" "cause" "Ljava/lang/Throwable;", .lays "java/lang/Throwable" "java/lang/Throwable" "cause" "Ljava/lang/Throwable;", .lays "java/lang/IllegalArgumentException" "java/lang/Throwable" "stackTrace" "[Ljava/lang/StackTraceElement;", .lays "java/lang/Throwable" "java/lang/Throwable" "stackTrace" "[Ljava/lang/StackTraceElement;", .lays "java/lang/IllegalArgumentException" "java/lang/Throwable" "suppressedExceptions" "Ljava/util/List;", .lays "java/lang/Throwable" "java/lang/Throwable" "suppressedExceptions" "Ljava/util/List;", .lays "java/lang/IllegalArgumentException" "java/lang/Throwable" "detailMessage" "Ljava/lang/String;", .lays "java/lang/Throwable" "java/lang/Throwable" "detailMessage" "Ljava/lang/String;", .lays "java/lang/IllegalArgumentException" "java/lang/Throwable" "backtrace" "Ljava/lang/Object;", .lays "java/lang/Throwable" "java/lang/Throwable" "backtrace" "Ljava/lang/Object;", .fieldLink "java/lang/Throwable" 198 "java/lang/Throwable" "backtrace" "Ljava/lang/Object;", .superclass "java/lang/Throwable" "java/lang/Object", .instanceMethod ⟨"java/lang/Throwable", "<init>", "()V"⟩, .code ⟨"java/lang/Throwable", "<init>", "()V"⟩ prog_19_method_1_code 1 none, .methodLink "java/lang/Throwable" 1 objectInit, .fieldLink "java/lang/Throwable" 13 "java/lang/Throwable" "UNASSIGNED_STACK" "[Ljava/lang/StackTraceElement;", .fieldLink "java/lang/Throwable" 20 "java/lang/Throwable" "SUPPRESSED_SENTINEL" "Ljava/util/List;", .methodLink "java/lang/Throwable" 27 ⟨"java/lang/Throwable", "fillInStackTrace", "()Ljava/lang/Throwable;"⟩, .instanceMethod ⟨"java/lang/Throwable", "fillInStackTrace", "()Ljava/lang/Throwable;"⟩]
def wa_4 : List Cond := [.sameMethod "java/lang/Throwable" "java/lang/Throwable" "fillInStackTrace" "()Ljava/lang/Throwable;", .selects "java/lang/IllegalStateException" ⟨"java/lang/Throwable", "fillInStackTrace", "()Ljava/lang/Throwable;"⟩ ⟨"java/lang/Throwable", "fillInStackTrace", "()Ljava/lang/Throwable;"⟩, .selects "java/lang/IndexOutOfBoundsException" ⟨"java/lang/Throwable", "fillInStackTrace", "()Ljava/lang/Throwable;"⟩ ⟨"java/lang/Throwable", "fillInStackTrace", "()Ljava/lang/Throwable;"⟩, .codeSync ⟨"java/lang/Throwable", "fillInStackTrace", "()Ljava/lang/Throwable;"⟩ prog_19_method_18_code 1 (some (.object "java/lang/Throwable")), .methodLink "java/lang/Throwable" 202 ⟨"java/lang/Throwable", "fillInStackTrace", "(I)Ljava/lang/Throwable;"⟩, .instanceMethod ⟨"java/lang/Throwable", "fillInStackTrace", "(I)Ljava/lang/Throwable;"⟩, .instantiable "java/lang/Throwable" 6, .native ⟨"java/lang/Throwable", "fillInStackTrace", "(I)Ljava/lang/Throwable;"⟩, .arrayClass .byte, .native ⟨"java/lang/Object", "clone", "()Ljava/lang/Object;"⟩, .instanceMethod ⟨"java/lang/Object", "clone", "()Ljava/lang/Object;"⟩, .methodLink R_A 343 ⟨R_A, "checkLength", "(II)V"⟩, .static ⟨R_A, "checkLength", "(II)V"⟩, .code ⟨R_A, "checkLength", "(II)V"⟩ prog_20_method_131_code 2 none, .methodLink R_A 65 ⟨"java/lang/IllegalArgumentException", "<init>", "(Ljava/lang/String;)V"⟩, .instanceMethod ⟨"java/lang/IllegalArgumentException", "<init>", "(Ljava/lang/String;)V"⟩, .code ⟨"java/lang/IllegalArgumentException", "<init>", "(Ljava/lang/String;)V"⟩ prog_8_method_2_code 2 none, .methodLink "java/lang/IllegalArgumentException" 7 ⟨"java/lang/RuntimeException", "<init>", "(Ljava/lang/String;)V"⟩, .instanceMethod ⟨"java/lang/RuntimeException", "<init>", "(Ljava/lang/String;)V"⟩, .code ⟨"java/lang/RuntimeException", "<init>", "(Ljava/lang/String;)V"⟩ prog_13_method_2_code 2 none, .methodLink "java/lang/RuntimeException" 7 ⟨"java/lang/Exception", "<init>", "(Ljava/lang/String;)V"⟩, .instanceMethod ⟨"java/lang/Exception", "<init>", "(Ljava/lang/String;)V"⟩, .code ⟨"java/lang/Exception", "<init>", "(Ljava/lang/String;)V"⟩ prog_7_method_2_code 2 none, .methodLink "java/lang/Exception" 7 ⟨"java/lang/Throwable", "<init>", "(Ljava/lang/String;)V"⟩, .instanceMethod ⟨"java/lang/Throwable", "<init>", "(Ljava/lang/String;)V"⟩, .code ⟨"java/lang/Throwable", "<init>", "(Ljava/lang/String;)V"⟩ prog_19_method_2_code 2 none, .fieldLink "java/lang/Throwable" 198 "java/lang/Throwable" "backtrace" "Ljava/lang/Object;", .fieldLink "java/lang/Throwable" 31 "java/lang/Throwable" "detailMessage" "Ljava/lang/String;", .fieldLink "java/lang/Throwable" 7 "java/lang/Throwable" "cause" "Ljava/lang/Throwable;", .fieldLink "java/lang/Throwable" 17 "java/lang/Throwable" "stackTrace" "[Ljava/lang/StackTraceElement;", .fieldLink "java/lang/Throwable" 24 "java/lang/Throwable" "suppressedExceptions" "Ljava/util/List;", .soleField "java/lang/Throwable" "backtrace", .soleField "java/lang/Throwable" "detailMessage", .soleField "java/lang/Throwable" "cause", .soleField "java/lang/Throwable" "stackTrace", .lays "java/lang/IllegalArgumentException" "java/lang/Throwable" "depth" "I", .soleField "java/lang/Throwable" "depth", .soleField "java/lang/Throwable" "suppressedExceptions", .superclass "java/lang/IllegalArgumentException" "java/lang/RuntimeException", .instanceMethod ⟨"java/lang/IndexOutOfBoundsException", "<init>", "(Ljava/lang/String;)V"⟩]
def wa_5 : List Cond := [.code ⟨"java/lang/IndexOutOfBoundsException", "<init>", "(Ljava/lang/String;)V"⟩ prog_10_method_2_code 2 none, .methodLink "java/lang/IndexOutOfBoundsException" 7 ⟨"java/lang/RuntimeException", "<init>", "(Ljava/lang/String;)V"⟩, .methodLink R_G 148 y_G_freeBlocksWithoutObjects, .instanceMethod y_G_freeBlocksWithoutObjects, .code y_G_freeBlocksWithoutObjects prog_1_method_40_code 2 none, .methodLink R_G 105 y_G_wordsInNoObject, .instanceMethod y_G_wordsInNoObject, .code y_G_wordsInNoObject prog_1_method_21_code 4 (some .int), .methodLink R_L 67 y_G_base, .instanceMethod y_G_base, .selects R_G y_G_base y_G_base, .code y_G_base prog_1_method_8_code 3 (some .int), .methodLink R_L 71 y_G_size, .instanceMethod y_G_size, .selects R_G y_G_size y_G_size, .code y_G_size prog_1_method_9_code 3 (some .int), .methodLink R_L 75 y_G_silent, .instanceMethod y_G_silent, .selects R_G y_G_silent y_G_silent, .code y_G_silent prog_1_method_10_code 3 (some .boolean), .methodLink R_L 80 y_G_block, .instanceMethod y_G_block, .selects R_G y_G_block y_G_block, .code y_G_block prog_1_method_11_code 2 (some .int), .methodLink R_G 98 y_G_isBlock, .static y_G_isBlock, .code y_G_isBlock prog_1_method_16_code 1 (some .boolean), .methodLink R_L 84 y_G_empty, .instanceMethod y_G_empty, .selects R_G y_G_empty y_G_empty, .code y_G_empty prog_1_method_12_code 2 (some .int), .methodLink R_G 102 y_G_isSplit, .instanceMethod y_G_isSplit, .code y_G_isSplit prog_1_method_20_code 2 (some .boolean), .methodLink R_L 88 y_G_objects, .instanceMethod y_G_objects, .selects R_G y_G_objects y_G_objects, .code y_G_objects prog_1_method_13_code 1 (some .int), .methodLink R_L 92 y_G_collections, .instanceMethod y_G_collections]
def wa_6 : List Cond := [.selects R_G y_G_collections y_G_collections, .code y_G_collections prog_1_method_14_code 1 (some .int), .methodLink R_L 38 y_L_allocate, .static y_L_allocate, .codeWith y_L_allocate method_3_code 5 (some .int) [(0, 10, 13, 13), (0, 10, 17, 15)], .classLink R_L 13 "java/lang/IllegalArgumentException", .classLink R_L 15 "java/lang/IllegalStateException", .methodLink R_L 7 y_G_allocate, .instanceMethod y_G_allocate, .selects R_G y_G_allocate y_G_allocate, .code y_G_allocate prog_1_method_2_code 4 (some .int), .classLink R_G 54 "java/lang/IllegalArgumentException", .methodLink R_G 58 ⟨"java/lang/IllegalArgumentException", "<init>", "(Ljava/lang/String;)V"⟩, .methodLink R_G 61 y_G_findRoom, .instanceMethod y_G_findRoom, .code y_G_findRoom prog_1_method_24_code 4 (some .int), .methodLink R_G 82 y_G_blocksFor, .static y_G_blocksFor, .code y_G_blocksFor prog_1_method_23_code 1 (some .int), .methodLink R_G 120 y_G_findBlocks, .instanceMethod y_G_findBlocks, .code y_G_findBlocks prog_1_method_26_code 6 (some .int), .methodLink R_G 74 y_G_slotSize, .static y_G_slotSize, .code y_G_slotSize prog_1_method_22_code 2 (some .int), .methodLink R_G 123 y_G_findEmptySlot, .instanceMethod y_G_findEmptySlot, .code y_G_findEmptySlot prog_1_method_25_code 3 (some .int), .classLink R_G 69 "java/lang/IllegalStateException", .instantiable "java/lang/IllegalStateException" 6, .selects "java/lang/IllegalStateException" ⟨"java/lang/Throwable", "fillInStackTrace", "(I)Ljava/lang/Throwable;"⟩ ⟨"java/lang/Throwable", "fillInStackTrace", "(I)Ljava/lang/Throwable;"⟩, .lays "java/lang/IllegalStateException" "java/lang/Throwable" "cause" "Ljava/lang/Throwable;", .lays "java/lang/IllegalStateException" "java/lang/Throwable" "stackTrace" "[Ljava/lang/StackTraceElement;", .lays "java/lang/IllegalStateException" "java/lang/Throwable" "suppressedExceptions" "Ljava/util/List;", .lays "java/lang/IllegalStateException" "java/lang/Throwable" "detailMessage" "Ljava/lang/String;", .lays "java/lang/IllegalStateException" "java/lang/Throwable" "backtrace" "Ljava/lang/Object;", .methodLink R_G 73 ⟨"java/lang/IllegalStateException", "<init>", "(Ljava/lang/String;)V"⟩, .instanceMethod ⟨"java/lang/IllegalStateException", "<init>", "(Ljava/lang/String;)V"⟩, .code ⟨"java/lang/IllegalStateException", "<init>", "(Ljava/lang/String;)V"⟩ prog_9_method_2_code 2 none, .methodLink "java/lang/IllegalStateException" 7 ⟨"java/lang/RuntimeException", "<init>", "(Ljava/lang/String;)V"⟩]
def wa_7 : List Cond := [.lays "java/lang/IllegalStateException" "java/lang/Throwable" "depth" "I", .superclass "java/lang/IllegalStateException" "java/lang/RuntimeException", .methodLink R_G 78 y_G_placeSmall, .instanceMethod y_G_placeSmall, .code y_G_placeSmall prog_1_method_27_code 4 none, .methodLink R_G 126 y_G_takeBlock, .instanceMethod y_G_takeBlock, .code y_G_takeBlock prog_1_method_29_code 3 none, .methodLink R_G 130 y_G_placeObject, .instanceMethod y_G_placeObject, .code y_G_placeObject prog_1_method_30_code 4 none, .methodLink R_G 85 y_G_placeLarge, .instanceMethod y_G_placeLarge, .code y_G_placeLarge prog_1_method_28_code 6 none, .methodLink R_L 48 y_L_root, .static y_L_root, .codeWith y_L_root method_4_code 4 (some .int) [(0, 6, 9, 21)], .classLink R_L 21 "java/lang/IndexOutOfBoundsException", .methodLink R_L 17 y_G_root, .instanceMethod y_G_root, .selects R_G y_G_root y_G_root, .code y_G_root prog_1_method_3_code 3 none, .methodLink R_G 88 y_G_checkRoot, .static y_G_checkRoot, .code y_G_checkRoot prog_1_method_17_code 1 none, .classLink R_G 108 "java/lang/IndexOutOfBoundsException", .instantiable "java/lang/IndexOutOfBoundsException" 6, .selects "java/lang/IndexOutOfBoundsException" ⟨"java/lang/Throwable", "fillInStackTrace", "(I)Ljava/lang/Throwable;"⟩ ⟨"java/lang/Throwable", "fillInStackTrace", "(I)Ljava/lang/Throwable;"⟩, .lays "java/lang/IndexOutOfBoundsException" "java/lang/Throwable" "cause" "Ljava/lang/Throwable;", .lays "java/lang/IndexOutOfBoundsException" "java/lang/Throwable" "stackTrace" "[Ljava/lang/StackTraceElement;", .lays "java/lang/IndexOutOfBoundsException" "java/lang/Throwable" "suppressedExceptions" "Ljava/util/List;", .lays "java/lang/IndexOutOfBoundsException" "java/lang/Throwable" "detailMessage" "Ljava/lang/String;", .lays "java/lang/IndexOutOfBoundsException" "java/lang/Throwable" "backtrace" "Ljava/lang/Object;", .methodLink R_G 112 ⟨"java/lang/IndexOutOfBoundsException", "<init>", "(Ljava/lang/String;)V"⟩, .lays "java/lang/IndexOutOfBoundsException" "java/lang/Throwable" "depth" "I", .superclass "java/lang/IndexOutOfBoundsException" "java/lang/RuntimeException", .methodLink R_L 52 y_L_rooted, .static y_L_rooted, .codeWith y_L_rooted method_5_code 4 (some .int) [(0, 9, 12, 21)], .methodLink R_L 23 y_G_rooted]
def wa_8 : List Cond := [.instanceMethod y_G_rooted, .selects R_G y_G_rooted y_G_rooted, .code y_G_rooted prog_1_method_4_code 2 (some .int), .methodLink R_L 56 y_L_read, .static y_L_read, .codeWith y_L_read method_6_code 4 (some .int) [(0, 9, 12, 21), (0, 9, 15, 15)], .methodLink R_L 27 y_G_read, .instanceMethod y_G_read, .selects R_G y_G_read y_G_read, .code y_G_read prog_1_method_5_code 2 (some .int), .methodLink R_G 92 y_G_checkInObject, .instanceMethod y_G_checkInObject, .code y_G_checkInObject prog_1_method_18_code 2 none, .methodLink R_L 59 y_L_write, .static y_L_write, .codeWith y_L_write method_7_code 5 (some .int) [(0, 10, 13, 21), (0, 10, 17, 15)], .methodLink R_L 30 y_G_write, .instanceMethod y_G_write, .selects R_G y_G_write y_G_write, .code y_G_write prog_1_method_6_code 4 (some .int), .classLink R_L 35 R_M, .instantiable R_M 11, .methodLink R_L 37 y_M_init, .instanceMethod y_M_init, .code y_M_init prog_3_method_1_code 1 none, .methodLink R_M 1 objectInit, .fieldLink R_M 35 R_M "thrown" "I", .fieldLink R_M 7 R_M "roots" "[I", .fieldLink R_M 13 R_M "word" "[I", .fieldLink R_M 16 R_M "of" "[I", .fieldLink R_M 19 R_M "many" "[I", .fieldLink R_M 22 R_M "quiet" "[Z", .fieldLink R_M 26 R_M "marked" "[Z", .fieldLink R_M 29 R_M "kind" "[I", .fieldLink R_M 32 R_M "doubtful" "[Z", .fieldLink R_M 53 R_M "collected" "I", .fieldLink R_M 50 R_M "given" "I", .lays R_M R_M "thrown" "I", .soleField R_M "thrown", .lays R_M R_M "roots" "[I"]
def wa_9 : List Cond := [.soleField R_M "roots", .lays R_M R_M "word" "[I", .soleField R_M "word", .lays R_M R_M "of" "[I", .soleField R_M "of", .lays R_M R_M "many" "[I", .soleField R_M "many", .lays R_M R_M "quiet" "[Z", .soleField R_M "quiet", .lays R_M R_M "marked" "[Z", .soleField R_M "marked", .lays R_M R_M "kind" "[I", .soleField R_M "kind", .lays R_M R_M "doubtful" "[Z", .soleField R_M "doubtful", .lays R_M R_M "collected" "I", .soleField R_M "collected", .lays R_M R_M "given" "I", .soleField R_M "given", .superclass R_M "java/lang/Object", .methodLink R_L 44 y_M_thrown, .instanceMethod y_M_thrown, .selects R_M y_M_thrown y_M_thrown, .code y_M_thrown prog_3_method_2_code 1 (some .int), .methodLink R_L 43 y_M_allocate, .instanceMethod y_M_allocate, .selects R_M y_M_allocate y_M_allocate, .code y_M_allocate prog_3_method_16_code 4 (some .int), .methodLink R_M 81 y_M_room, .instanceMethod y_M_room, .code y_M_room prog_3_method_14_code 3 (some .int), .methodLink R_M 71 y_M_sizeFor, .static y_M_sizeFor, .code y_M_sizeFor prog_3_method_11_code 1 (some .int), .methodLink R_M 74 y_M_smallRoom, .instanceMethod y_M_smallRoom, .code y_M_smallRoom prog_3_method_12_code 4 (some .int), .methodLink R_M 67 y_M_isOpen, .instanceMethod y_M_isOpen, .code y_M_isOpen prog_3_method_10_code 3 (some .boolean)]
def wa_10 : List Cond := [.methodLink R_M 78 y_M_largeRoom, .instanceMethod y_M_largeRoom, .code y_M_largeRoom prog_3_method_13_code 6 (some .int), .methodLink R_M 84 y_M_gather, .instanceMethod y_M_gather, .code y_M_gather prog_3_method_9_code 3 none, .methodLink R_M 56 y_M_lookAtAll, .instanceMethod y_M_lookAtAll, .code y_M_lookAtAll prog_3_method_6_code 5 (some .boolean), .methodLink R_M 47 y_M_look, .instanceMethod y_M_look, .code y_M_look prog_3_method_5_code 4 (some .boolean), .methodLink R_M 39 y_M_isAddress, .static y_M_isAddress, .code y_M_isAddress prog_3_method_3_code 1 (some .boolean), .methodLink R_M 43 y_M_objectAt, .instanceMethod y_M_objectAt, .code y_M_objectAt prog_3_method_4_code 2 (some .int), .methodLink R_M 60 y_M_giveUp, .instanceMethod y_M_giveUp, .code y_M_giveUp prog_3_method_7_code 4 none, .methodLink R_M 64 y_M_isBare, .instanceMethod y_M_isBare, .code y_M_isBare prog_3_method_8_code 4 (some .boolean), .methodLink R_M 87 y_M_settle, .instanceMethod y_M_settle, .code y_M_settle prog_3_method_15_code 6 none, .methodLink R_L 66 y_M_collect, .instanceMethod y_M_collect, .selects R_M y_M_collect y_M_collect, .code y_M_collect prog_3_method_17_code 1 (some .int), .methodLink R_L 51 y_M_root, .instanceMethod y_M_root, .selects R_M y_M_root y_M_root, .code y_M_root prog_3_method_18_code 3 none, .methodLink R_L 55 y_M_rooted, .instanceMethod y_M_rooted, .selects R_M y_M_rooted y_M_rooted, .code y_M_rooted prog_3_method_19_code 2 (some .int), .methodLink R_L 58 y_M_read]
def wa_11 : List Cond := [.instanceMethod y_M_read, .selects R_M y_M_read y_M_read, .code y_M_read prog_3_method_21_code 2 (some .int), .methodLink R_M 91 y_M_bar, .instanceMethod y_M_bar, .code y_M_bar prog_3_method_20_code 2 (some .int), .methodLink R_L 62 y_M_write, .instanceMethod y_M_write, .selects R_M y_M_write y_M_write, .code y_M_write prog_3_method_22_code 4 (some .int), .methodLink R_L 70 y_M_base, .instanceMethod y_M_base, .selects R_M y_M_base y_M_base, .code y_M_base prog_3_method_23_code 3 (some .int), .methodLink R_L 74 y_M_size, .instanceMethod y_M_size, .selects R_M y_M_size y_M_size, .code y_M_size prog_3_method_24_code 3 (some .int), .methodLink R_L 79 y_M_silent, .instanceMethod y_M_silent, .selects R_M y_M_silent y_M_silent, .code y_M_silent prog_3_method_25_code 3 (some .boolean), .methodLink R_L 83 y_M_block, .instanceMethod y_M_block, .selects R_M y_M_block y_M_block, .code y_M_block prog_3_method_26_code 2 (some .int), .methodLink R_L 87 y_M_empty, .instanceMethod y_M_empty, .selects R_M y_M_empty y_M_empty, .code y_M_empty prog_3_method_27_code 4 (some .int), .methodLink R_L 91 y_M_objects, .instanceMethod y_M_objects, .selects R_M y_M_objects y_M_objects, .code y_M_objects prog_3_method_28_code 3 (some .int), .methodLink R_L 95 y_M_collections, .instanceMethod y_M_collections, .selects R_M y_M_collections y_M_collections, .code y_M_collections prog_3_method_29_code 1 (some .int), .arrayClass .long, .sameMethod "java/lang/Throwable" "java/lang/Throwable" "fillInStackTrace" "(I)Ljava/lang/Throwable;"]
def wa_all : List Cond := wa_0 ++ (wa_1 ++ (wa_2 ++ (wa_3 ++ (wa_4 ++ (wa_5 ++ (wa_6 ++ (wa_7 ++ (wa_8 ++ (wa_9 ++ (wa_10 ++ (wa_11)))))))))))
theorem wa_in0 {w : Cond} (h : w ∈ wa_0) : w ∈ wa_all := List.mem_append_left _ h
theorem wa_in1 {w : Cond} (h : w ∈ wa_1) : w ∈ wa_all := List.mem_append_right _ (List.mem_append_left _ h)
theorem wa_in2 {w : Cond} (h : w ∈ wa_2) : w ∈ wa_all := List.mem_append_right _ (List.mem_append_right _ (List.mem_append_left _ h))
theorem wa_in3 {w : Cond} (h : w ∈ wa_3) : w ∈ wa_all := List.mem_append_right _ (List.mem_append_right _ (List.mem_append_right _ (List.mem_append_left _ h)))
theorem wa_in4 {w : Cond} (h : w ∈ wa_4) : w ∈ wa_all := List.mem_append_right _ (List.mem_append_right _ (List.mem_append_right _ (List.mem_append_right _ (List.mem_append_left _ h))))
theorem wa_in5 {w : Cond} (h : w ∈ wa_5) : w ∈ wa_all := List.mem_append_right _ (List.mem_append_right _ (List.mem_append_right _ (List.mem_append_right _ (List.mem_append_right _ (List.mem_append_left _ h)))))
theorem wa_in6 {w : Cond} (h : w ∈ wa_6) : w ∈ wa_all := List.mem_append_right _ (List.mem_append_right _ (List.mem_append_right _ (List.mem_append_right _ (List.mem_append_right _ (List.mem_append_right _ (List.mem_append_left _ h))))))
theorem wa_in7 {w : Cond} (h : w ∈ wa_7) : w ∈ wa_all := List.mem_append_right _ (List.mem_append_right _ (List.mem_append_right _ (List.mem_append_right _ (List.mem_append_right _ (List.mem_append_right _ (List.mem_append_right _ (List.mem_append_left _ h)))))))
theorem wa_in8 {w : Cond} (h : w ∈ wa_8) : w ∈ wa_all := List.mem_append_right _ (List.mem_append_right _ (List.mem_append_right _ (List.mem_append_right _ (List.mem_append_right _ (List.mem_append_right _ (List.mem_append_right _ (List.mem_append_right _ (List.mem_append_left _ h))))))))
theorem wa_in9 {w : Cond} (h : w ∈ wa_9) : w ∈ wa_all := List.mem_append_right _ (List.mem_append_right _ (List.mem_append_right _ (List.mem_append_right _ (List.mem_append_right _ (List.mem_append_right _ (List.mem_append_right _ (List.mem_append_right _ (List.mem_append_right _ (List.mem_append_left _ h)))))))))
theorem wa_in10 {w : Cond} (h : w ∈ wa_10) : w ∈ wa_all := List.mem_append_right _ (List.mem_append_right _ (List.mem_append_right _ (List.mem_append_right _ (List.mem_append_right _ (List.mem_append_right _ (List.mem_append_right _ (List.mem_append_right _ (List.mem_append_right _ (List.mem_append_right _ (List.mem_append_left _ h))))))))))
theorem wa_in11 {w : Cond} (h : w ∈ wa_11) : w ∈ wa_all := List.mem_append_right _ (List.mem_append_right _ (List.mem_append_right _ (List.mem_append_right _ (List.mem_append_right _ (List.mem_append_right _ (List.mem_append_right _ (List.mem_append_right _ (List.mem_append_right _ (List.mem_append_right _ (List.mem_append_right _ (h)))))))))))
theorem wm_0 : (.selects R_G y_G_collectNow y_G_collectNow : Cond) ∈ wa_all := wa_in0 (List.mem_of_getElem? (i := 0) rfl)
theorem wm_1 : (.selects R_G y_G_forgetMarks y_G_forgetMarks : Cond) ∈ wa_all := wa_in0 (List.mem_of_getElem? (i := 1) rfl)
theorem wm_2 : (.selects R_G y_G_lookAtRoots y_G_lookAtRoots : Cond) ∈ wa_all := wa_in0 (List.mem_of_getElem? (i := 2) rfl)
theorem wm_3 : (.selects R_G y_G_lookAt y_G_lookAt : Cond) ∈ wa_all := wa_in0 (List.mem_of_getElem? (i := 3) rfl)
theorem wm_4 : (.selects R_G y_G_startAt y_G_startAt : Cond) ∈ wa_all := wa_in0 (List.mem_of_getElem? (i := 4) rfl)
theorem wm_5 : (.selects R_G y_G_mark y_G_mark : Cond) ∈ wa_all := wa_in0 (List.mem_of_getElem? (i := 5) rfl)
theorem wm_6 : (.selects R_G y_G_lookAtMarkedObjects y_G_lookAtMarkedObjects : Cond) ∈ wa_all := wa_in0 (List.mem_of_getElem? (i := 6) rfl)
theorem wm_7 : (.selects R_G y_G_lookAtWords y_G_lookAtWords : Cond) ∈ wa_all := wa_in0 (List.mem_of_getElem? (i := 7) rfl)
theorem wm_8 : (.selects R_G y_G_giveUpUnmarkedObjects y_G_giveUpUnmarkedObjects : Cond) ∈ wa_all := wa_in0 (List.mem_of_getElem? (i := 8) rfl)
theorem wm_9 : (.selects R_G y_G_giveUp y_G_giveUp : Cond) ∈ wa_all := wa_in0 (List.mem_of_getElem? (i := 9) rfl)
theorem wm_10 : (.selects R_G y_G_freeBlocksWithoutObjects y_G_freeBlocksWithoutObjects : Cond) ∈ wa_all := wa_in0 (List.mem_of_getElem? (i := 10) rfl)
theorem wm_11 : (.selects R_G y_G_wordsInNoObject y_G_wordsInNoObject : Cond) ∈ wa_all := wa_in0 (List.mem_of_getElem? (i := 11) rfl)
theorem wm_12 : (.selects R_G y_G_isSplit y_G_isSplit : Cond) ∈ wa_all := wa_in0 (List.mem_of_getElem? (i := 12) rfl)
theorem wm_13 : (.selects R_G y_G_findRoom y_G_findRoom : Cond) ∈ wa_all := wa_in0 (List.mem_of_getElem? (i := 13) rfl)
theorem wm_14 : (.selects R_G y_G_findBlocks y_G_findBlocks : Cond) ∈ wa_all := wa_in0 (List.mem_of_getElem? (i := 14) rfl)
theorem wm_15 : (.selects R_G y_G_findEmptySlot y_G_findEmptySlot : Cond) ∈ wa_all := wa_in0 (List.mem_of_getElem? (i := 15) rfl)
theorem wm_16 : (.selects R_G y_G_placeSmall y_G_placeSmall : Cond) ∈ wa_all := wa_in0 (List.mem_of_getElem? (i := 16) rfl)
theorem wm_17 : (.selects R_G y_G_takeBlock y_G_takeBlock : Cond) ∈ wa_all := wa_in0 (List.mem_of_getElem? (i := 17) rfl)
theorem wm_18 : (.selects R_G y_G_placeObject y_G_placeObject : Cond) ∈ wa_all := wa_in0 (List.mem_of_getElem? (i := 18) rfl)
theorem wm_19 : (.selects R_G y_G_placeLarge y_G_placeLarge : Cond) ∈ wa_all := wa_in0 (List.mem_of_getElem? (i := 19) rfl)
theorem wm_20 : (.selects R_G y_G_checkInObject y_G_checkInObject : Cond) ∈ wa_all := wa_in0 (List.mem_of_getElem? (i := 20) rfl)
theorem wm_21 : (.selects R_M y_M_room y_M_room : Cond) ∈ wa_all := wa_in0 (List.mem_of_getElem? (i := 21) rfl)
theorem wm_22 : (.selects R_M y_M_smallRoom y_M_smallRoom : Cond) ∈ wa_all := wa_in0 (List.mem_of_getElem? (i := 22) rfl)
theorem wm_23 : (.selects R_M y_M_isOpen y_M_isOpen : Cond) ∈ wa_all := wa_in0 (List.mem_of_getElem? (i := 23) rfl)
theorem wm_24 : (.selects R_M y_M_largeRoom y_M_largeRoom : Cond) ∈ wa_all := wa_in0 (List.mem_of_getElem? (i := 24) rfl)
theorem wm_25 : (.selects R_M y_M_gather y_M_gather : Cond) ∈ wa_all := wa_in0 (List.mem_of_getElem? (i := 25) rfl)
theorem wm_26 : (.selects R_M y_M_lookAtAll y_M_lookAtAll : Cond) ∈ wa_all := wa_in0 (List.mem_of_getElem? (i := 26) rfl)
theorem wm_27 : (.selects R_M y_M_look y_M_look : Cond) ∈ wa_all := wa_in0 (List.mem_of_getElem? (i := 27) rfl)
theorem wm_28 : (.selects R_M y_M_objectAt y_M_objectAt : Cond) ∈ wa_all := wa_in0 (List.mem_of_getElem? (i := 28) rfl)
theorem wm_29 : (.selects R_M y_M_giveUp y_M_giveUp : Cond) ∈ wa_all := wa_in0 (List.mem_of_getElem? (i := 29) rfl)
theorem wm_30 : (.selects R_M y_M_isBare y_M_isBare : Cond) ∈ wa_all := wa_in0 (List.mem_of_getElem? (i := 30) rfl)
theorem wm_31 : (.selects R_M y_M_settle y_M_settle : Cond) ∈ wa_all := wa_in0 (List.mem_of_getElem? (i := 31) rfl)
theorem wm_32 : (.selects R_M y_M_bar y_M_bar : Cond) ∈ wa_all := wa_in0 (List.mem_of_getElem? (i := 32) rfl)
theorem wm_33 : (.initialized R_L : Cond) ∈ wa_all := wa_in0 (List.mem_of_getElem? (i := 33) rfl)
theorem wm_34 : (.initialized R_G : Cond) ∈ wa_all := wa_in0 (List.mem_of_getElem? (i := 34) rfl)
theorem wm_35 : (.initialized R_A : Cond) ∈ wa_all := wa_in0 (List.mem_of_getElem? (i := 35) rfl)
theorem wm_36 : (.initialized R_M : Cond) ∈ wa_all := wa_in0 (List.mem_of_getElem? (i := 36) rfl)
theorem wm_37 : (.initialized "java/lang/Throwable" : Cond) ∈ wa_all := wa_in0 (List.mem_of_getElem? (i := 37) rfl)
theorem wm_38 : (.initialized "java/lang/Exception" : Cond) ∈ wa_all := wa_in0 (List.mem_of_getElem? (i := 38) rfl)
theorem wm_39 : (.initialized "java/lang/RuntimeException" : Cond) ∈ wa_all := wa_in0 (List.mem_of_getElem? (i := 39) rfl)
theorem wm_40 : (.initialized "java/lang/IllegalArgumentException" : Cond) ∈ wa_all := wa_in1 (List.mem_of_getElem? (i := 0) rfl)
theorem wm_41 : (.initialized "java/lang/System" : Cond) ∈ wa_all := wa_in1 (List.mem_of_getElem? (i := 1) rfl)
theorem wm_42 : (.initialized "java/lang/IndexOutOfBoundsException" : Cond) ∈ wa_all := wa_in1 (List.mem_of_getElem? (i := 2) rfl)
theorem wm_43 : (.initialized "java/lang/IllegalStateException" : Cond) ∈ wa_all := wa_in1 (List.mem_of_getElem? (i := 3) rfl)
theorem wm_44 : (.classLink R_L 8 R_G : Cond) ∈ wa_all := wa_in1 (List.mem_of_getElem? (i := 4) rfl)
theorem wm_45 : (.instantiable R_G 12 : Cond) ∈ wa_all := wa_in1 (List.mem_of_getElem? (i := 5) rfl)
theorem wm_46 : (.methodLink R_L 34 y_G_init : Cond) ∈ wa_all := wa_in1 (List.mem_of_getElem? (i := 6) rfl)
theorem wm_47 : (.instanceMethod y_G_init : Cond) ∈ wa_all := wa_in1 (List.mem_of_getElem? (i := 7) rfl)
theorem wm_48 : (.code y_G_init prog_1_method_1_code 1 none : Cond) ∈ wa_all := wa_in1 (List.mem_of_getElem? (i := 8) rfl)
theorem wm_49 : (.methodLink R_G 3 objectInit : Cond) ∈ wa_all := wa_in1 (List.mem_of_getElem? (i := 9) rfl)
theorem wm_50 : (.instanceMethod objectInit : Cond) ∈ wa_all := wa_in1 (List.mem_of_getElem? (i := 10) rfl)
theorem wm_51 : (.code objectInit object_method_1_code 1 none : Cond) ∈ wa_all := wa_in1 (List.mem_of_getElem? (i := 11) rfl)
theorem wm_52 : (.methodLink R_G 48 y_A_fill1 : Cond) ∈ wa_all := wa_in1 (List.mem_of_getElem? (i := 12) rfl)
theorem wm_53 : (.static y_A_fill1 : Cond) ∈ wa_all := wa_in1 (List.mem_of_getElem? (i := 13) rfl)
theorem wm_54 : (.code y_A_fill1 prog_20_method_103_code 4 none : Cond) ∈ wa_all := wa_in1 (List.mem_of_getElem? (i := 14) rfl)
theorem wm_55 : (.fieldLink R_G 9 R_G "roots" "[I" : Cond) ∈ wa_all := wa_in1 (List.mem_of_getElem? (i := 15) rfl)
theorem wm_56 : (.fieldLink R_G 13 R_G "kinds" "[I" : Cond) ∈ wa_all := wa_in1 (List.mem_of_getElem? (i := 16) rfl)
theorem wm_57 : (.fieldLink R_G 16 R_G "doubtful" "[Z" : Cond) ∈ wa_all := wa_in1 (List.mem_of_getElem? (i := 17) rfl)
theorem wm_58 : (.fieldLink R_G 20 R_G "words" "[I" : Cond) ∈ wa_all := wa_in1 (List.mem_of_getElem? (i := 18) rfl)
theorem wm_59 : (.fieldLink R_G 23 R_G "starts" "[I" : Cond) ∈ wa_all := wa_in1 (List.mem_of_getElem? (i := 19) rfl)
theorem wm_60 : (.fieldLink R_G 26 R_G "lengths" "[I" : Cond) ∈ wa_all := wa_in1 (List.mem_of_getElem? (i := 20) rfl)
theorem wm_61 : (.fieldLink R_G 29 R_G "unread" "[Z" : Cond) ∈ wa_all := wa_in1 (List.mem_of_getElem? (i := 21) rfl)
theorem wm_62 : (.fieldLink R_G 32 R_G "marked" "[Z" : Cond) ∈ wa_all := wa_in1 (List.mem_of_getElem? (i := 22) rfl)
theorem wm_63 : (.fieldLink R_G 35 R_G "found" "[I" : Cond) ∈ wa_all := wa_in1 (List.mem_of_getElem? (i := 23) rfl)
theorem wm_64 : (.fieldLink R_G 38 R_G "foundCount" "I" : Cond) ∈ wa_all := wa_in1 (List.mem_of_getElem? (i := 24) rfl)
theorem wm_65 : (.fieldLink R_G 42 R_G "objectCount" "I" : Cond) ∈ wa_all := wa_in1 (List.mem_of_getElem? (i := 25) rfl)
theorem wm_66 : (.fieldLink R_G 45 R_G "collectionCount" "I" : Cond) ∈ wa_all := wa_in1 (List.mem_of_getElem? (i := 26) rfl)
theorem wm_67 : (.laysFinal R_G R_G "roots" "[I" : Cond) ∈ wa_all := wa_in1 (List.mem_of_getElem? (i := 27) rfl)
theorem wm_68 : (.soleField R_G "roots" : Cond) ∈ wa_all := wa_in1 (List.mem_of_getElem? (i := 28) rfl)
theorem wm_69 : (.laysFinal R_G R_G "kinds" "[I" : Cond) ∈ wa_all := wa_in1 (List.mem_of_getElem? (i := 29) rfl)
theorem wm_70 : (.soleField R_G "kinds" : Cond) ∈ wa_all := wa_in1 (List.mem_of_getElem? (i := 30) rfl)
theorem wm_71 : (.laysFinal R_G R_G "doubtful" "[Z" : Cond) ∈ wa_all := wa_in1 (List.mem_of_getElem? (i := 31) rfl)
theorem wm_72 : (.soleField R_G "doubtful" : Cond) ∈ wa_all := wa_in1 (List.mem_of_getElem? (i := 32) rfl)
theorem wm_73 : (.laysFinal R_G R_G "words" "[I" : Cond) ∈ wa_all := wa_in1 (List.mem_of_getElem? (i := 33) rfl)
theorem wm_74 : (.soleField R_G "words" : Cond) ∈ wa_all := wa_in1 (List.mem_of_getElem? (i := 34) rfl)
theorem wm_75 : (.laysFinal R_G R_G "starts" "[I" : Cond) ∈ wa_all := wa_in1 (List.mem_of_getElem? (i := 35) rfl)
theorem wm_76 : (.soleField R_G "starts" : Cond) ∈ wa_all := wa_in1 (List.mem_of_getElem? (i := 36) rfl)
theorem wm_77 : (.laysFinal R_G R_G "lengths" "[I" : Cond) ∈ wa_all := wa_in1 (List.mem_of_getElem? (i := 37) rfl)
theorem wm_78 : (.soleField R_G "lengths" : Cond) ∈ wa_all := wa_in1 (List.mem_of_getElem? (i := 38) rfl)
theorem wm_79 : (.laysFinal R_G R_G "unread" "[Z" : Cond) ∈ wa_all := wa_in1 (List.mem_of_getElem? (i := 39) rfl)
theorem wm_80 : (.soleField R_G "unread" : Cond) ∈ wa_all := wa_in2 (List.mem_of_getElem? (i := 0) rfl)
theorem wm_81 : (.laysFinal R_G R_G "marked" "[Z" : Cond) ∈ wa_all := wa_in2 (List.mem_of_getElem? (i := 1) rfl)
theorem wm_82 : (.soleField R_G "marked" : Cond) ∈ wa_all := wa_in2 (List.mem_of_getElem? (i := 2) rfl)
theorem wm_83 : (.laysFinal R_G R_G "found" "[I" : Cond) ∈ wa_all := wa_in2 (List.mem_of_getElem? (i := 3) rfl)
theorem wm_84 : (.soleField R_G "found" : Cond) ∈ wa_all := wa_in2 (List.mem_of_getElem? (i := 4) rfl)
theorem wm_85 : (.lays R_G R_G "foundCount" "I" : Cond) ∈ wa_all := wa_in2 (List.mem_of_getElem? (i := 5) rfl)
theorem wm_86 : (.soleField R_G "foundCount" : Cond) ∈ wa_all := wa_in2 (List.mem_of_getElem? (i := 6) rfl)
theorem wm_87 : (.lays R_G R_G "objectCount" "I" : Cond) ∈ wa_all := wa_in2 (List.mem_of_getElem? (i := 7) rfl)
theorem wm_88 : (.soleField R_G "objectCount" : Cond) ∈ wa_all := wa_in2 (List.mem_of_getElem? (i := 8) rfl)
theorem wm_89 : (.lays R_G R_G "collectionCount" "I" : Cond) ∈ wa_all := wa_in2 (List.mem_of_getElem? (i := 9) rfl)
theorem wm_90 : (.soleField R_G "collectionCount" : Cond) ∈ wa_all := wa_in2 (List.mem_of_getElem? (i := 10) rfl)
theorem wm_91 : (.superclass R_G "java/lang/Object" : Cond) ∈ wa_all := wa_in2 (List.mem_of_getElem? (i := 11) rfl)
theorem wm_92 : (.arrayClass .int : Cond) ∈ wa_all := wa_in2 (List.mem_of_getElem? (i := 12) rfl)
theorem wm_93 : (.arrayClass .boolean : Cond) ∈ wa_all := wa_in2 (List.mem_of_getElem? (i := 13) rfl)
theorem wm_94 : (.methodLink R_L 63 y_G_collect : Cond) ∈ wa_all := wa_in2 (List.mem_of_getElem? (i := 14) rfl)
theorem wm_95 : (.instanceMethod y_G_collect : Cond) ∈ wa_all := wa_in2 (List.mem_of_getElem? (i := 15) rfl)
theorem wm_96 : (.selects R_G y_G_collect y_G_collect : Cond) ∈ wa_all := wa_in2 (List.mem_of_getElem? (i := 16) rfl)
theorem wm_97 : (.code y_G_collect prog_1_method_7_code 1 (some .int) : Cond) ∈ wa_all := wa_in2 (List.mem_of_getElem? (i := 17) rfl)
theorem wm_98 : (.methodLink R_G 65 y_G_collectNow : Cond) ∈ wa_all := wa_in2 (List.mem_of_getElem? (i := 18) rfl)
theorem wm_99 : (.instanceMethod y_G_collectNow : Cond) ∈ wa_all := wa_in2 (List.mem_of_getElem? (i := 19) rfl)
theorem wm_100 : (.code y_G_collectNow prog_1_method_31_code 2 (some .int) : Cond) ∈ wa_all := wa_in2 (List.mem_of_getElem? (i := 20) rfl)
theorem wm_101 : (.methodLink R_G 136 y_G_forgetMarks : Cond) ∈ wa_all := wa_in2 (List.mem_of_getElem? (i := 21) rfl)
theorem wm_102 : (.instanceMethod y_G_forgetMarks : Cond) ∈ wa_all := wa_in2 (List.mem_of_getElem? (i := 22) rfl)
theorem wm_103 : (.code y_G_forgetMarks prog_1_method_32_code 2 none : Cond) ∈ wa_all := wa_in2 (List.mem_of_getElem? (i := 23) rfl)
theorem wm_104 : (.methodLink R_G 139 y_G_lookAtRoots : Cond) ∈ wa_all := wa_in2 (List.mem_of_getElem? (i := 24) rfl)
theorem wm_105 : (.instanceMethod y_G_lookAtRoots : Cond) ∈ wa_all := wa_in2 (List.mem_of_getElem? (i := 25) rfl)
theorem wm_106 : (.code y_G_lookAtRoots prog_1_method_33_code 2 none : Cond) ∈ wa_all := wa_in2 (List.mem_of_getElem? (i := 26) rfl)
theorem wm_107 : (.methodLink R_G 151 y_G_lookAt : Cond) ∈ wa_all := wa_in2 (List.mem_of_getElem? (i := 27) rfl)
theorem wm_108 : (.instanceMethod y_G_lookAt : Cond) ∈ wa_all := wa_in2 (List.mem_of_getElem? (i := 28) rfl)
theorem wm_109 : (.code y_G_lookAt prog_1_method_36_code 4 none : Cond) ∈ wa_all := wa_in2 (List.mem_of_getElem? (i := 29) rfl)
theorem wm_110 : (.methodLink R_G 113 y_G_isAddress : Cond) ∈ wa_all := wa_in2 (List.mem_of_getElem? (i := 30) rfl)
theorem wm_111 : (.static y_G_isAddress : Cond) ∈ wa_all := wa_in2 (List.mem_of_getElem? (i := 31) rfl)
theorem wm_112 : (.code y_G_isAddress prog_1_method_15_code 1 (some .boolean) : Cond) ∈ wa_all := wa_in2 (List.mem_of_getElem? (i := 32) rfl)
theorem wm_113 : (.methodLink R_G 95 y_G_startAt : Cond) ∈ wa_all := wa_in2 (List.mem_of_getElem? (i := 33) rfl)
theorem wm_114 : (.instanceMethod y_G_startAt : Cond) ∈ wa_all := wa_in2 (List.mem_of_getElem? (i := 34) rfl)
theorem wm_115 : (.code y_G_startAt prog_1_method_19_code 2 (some .int) : Cond) ∈ wa_all := wa_in2 (List.mem_of_getElem? (i := 35) rfl)
theorem wm_116 : (.methodLink R_G 157 y_G_mark : Cond) ∈ wa_all := wa_in2 (List.mem_of_getElem? (i := 36) rfl)
theorem wm_117 : (.instanceMethod y_G_mark : Cond) ∈ wa_all := wa_in2 (List.mem_of_getElem? (i := 37) rfl)
theorem wm_118 : (.code y_G_mark prog_1_method_37_code 2 none : Cond) ∈ wa_all := wa_in2 (List.mem_of_getElem? (i := 38) rfl)
theorem wm_119 : (.methodLink R_G 142 y_G_lookAtMarkedObjects : Cond) ∈ wa_all := wa_in2 (List.mem_of_getElem? (i := 39) rfl)
theorem wm_120 : (.instanceMethod y_G_lookAtMarkedObjects : Cond) ∈ wa_all := wa_in3 (List.mem_of_getElem? (i := 0) rfl)
theorem wm_121 : (.code y_G_lookAtMarkedObjects prog_1_method_34_code 3 none : Cond) ∈ wa_all := wa_in3 (List.mem_of_getElem? (i := 1) rfl)
theorem wm_122 : (.methodLink R_G 154 y_G_lookAtWords : Cond) ∈ wa_all := wa_in3 (List.mem_of_getElem? (i := 2) rfl)
theorem wm_123 : (.instanceMethod y_G_lookAtWords : Cond) ∈ wa_all := wa_in3 (List.mem_of_getElem? (i := 3) rfl)
theorem wm_124 : (.code y_G_lookAtWords prog_1_method_35_code 4 none : Cond) ∈ wa_all := wa_in3 (List.mem_of_getElem? (i := 4) rfl)
theorem wm_125 : (.methodLink R_G 145 y_G_giveUpUnmarkedObjects : Cond) ∈ wa_all := wa_in3 (List.mem_of_getElem? (i := 5) rfl)
theorem wm_126 : (.instanceMethod y_G_giveUpUnmarkedObjects : Cond) ∈ wa_all := wa_in3 (List.mem_of_getElem? (i := 6) rfl)
theorem wm_127 : (.code y_G_giveUpUnmarkedObjects prog_1_method_38_code 2 none : Cond) ∈ wa_all := wa_in3 (List.mem_of_getElem? (i := 7) rfl)
theorem wm_128 : (.methodLink R_G 160 y_G_giveUp : Cond) ∈ wa_all := wa_in3 (List.mem_of_getElem? (i := 8) rfl)
theorem wm_129 : (.instanceMethod y_G_giveUp : Cond) ∈ wa_all := wa_in3 (List.mem_of_getElem? (i := 9) rfl)
theorem wm_130 : (.code y_G_giveUp prog_1_method_39_code 3 none : Cond) ∈ wa_all := wa_in3 (List.mem_of_getElem? (i := 10) rfl)
theorem wm_131 : (.methodLink R_G 133 y_A_fill3 : Cond) ∈ wa_all := wa_in3 (List.mem_of_getElem? (i := 11) rfl)
theorem wm_132 : (.static y_A_fill3 : Cond) ∈ wa_all := wa_in3 (List.mem_of_getElem? (i := 12) rfl)
theorem wm_133 : (.code y_A_fill3 prog_20_method_104_code 5 none : Cond) ∈ wa_all := wa_in3 (List.mem_of_getElem? (i := 13) rfl)
theorem wm_134 : (.methodLink R_A 13 y_A_rangeCheck : Cond) ∈ wa_all := wa_in3 (List.mem_of_getElem? (i := 14) rfl)
theorem wm_135 : (.static y_A_rangeCheck : Cond) ∈ wa_all := wa_in3 (List.mem_of_getElem? (i := 15) rfl)
theorem wm_136 : (.code y_A_rangeCheck prog_20_method_30_code 3 none : Cond) ∈ wa_all := wa_in3 (List.mem_of_getElem? (i := 16) rfl)
theorem wm_137 : (.classLink R_A 43 "java/lang/IllegalArgumentException" : Cond) ∈ wa_all := wa_in3 (List.mem_of_getElem? (i := 17) rfl)
theorem wm_138 : (.instantiable "java/lang/IllegalArgumentException" 6 : Cond) ∈ wa_all := wa_in3 (List.mem_of_getElem? (i := 18) rfl)
theorem wm_139 : (.selects "java/lang/IllegalArgumentException" ⟨"java/lang/Throwable", "fillInStackTrace", "(I)Ljava/lang/Throwable;"⟩ ⟨"java/lang/Throwable", "fillInStackTrace", "(I)Ljava/lang/Throwable;"⟩ : Cond) ∈ wa_all := wa_in3 (List.mem_of_getElem? (i := 19) rfl)
theorem wm_140 : (.selects "java/lang/IllegalArgumentException" ⟨"java/lang/Throwable", "fillInStackTrace", "()Ljava/lang/Throwable;"⟩ ⟨"java/lang/Throwable", "fillInStackTrace", "()Ljava/lang/Throwable;"⟩ : Cond) ∈ wa_all := wa_in3 (List.mem_of_getElem? (i := 20) rfl)
theorem wm_141 : (.lays "java/lang/IllegalArgumentException" "java/lang/Throwable" "cause" "Ljava/lang/Throwable;" : Cond) ∈ wa_all := wa_in3 (List.mem_of_getElem? (i := 21) rfl)
theorem wm_142 : (.lays "java/lang/Throwable" "java/lang/Throwable" "cause" "Ljava/lang/Throwable;" : Cond) ∈ wa_all := wa_in3 (List.mem_of_getElem? (i := 22) rfl)
theorem wm_143 : (.lays "java/lang/IllegalArgumentException" "java/lang/Throwable" "stackTrace" "[Ljava/lang/StackTraceElement;" : Cond) ∈ wa_all := wa_in3 (List.mem_of_getElem? (i := 23) rfl)
theorem wm_144 : (.lays "java/lang/Throwable" "java/lang/Throwable" "stackTrace" "[Ljava/lang/StackTraceElement;" : Cond) ∈ wa_all := wa_in3 (List.mem_of_getElem? (i := 24) rfl)
theorem wm_145 : (.lays "java/lang/IllegalArgumentException" "java/lang/Throwable" "suppressedExceptions" "Ljava/util/List;" : Cond) ∈ wa_all := wa_in3 (List.mem_of_getElem? (i := 25) rfl)
theorem wm_146 : (.lays "java/lang/Throwable" "java/lang/Throwable" "suppressedExceptions" "Ljava/util/List;" : Cond) ∈ wa_all := wa_in3 (List.mem_of_getElem? (i := 26) rfl)
theorem wm_147 : (.lays "java/lang/IllegalArgumentException" "java/lang/Throwable" "detailMessage" "Ljava/lang/String;" : Cond) ∈ wa_all := wa_in3 (List.mem_of_getElem? (i := 27) rfl)
theorem wm_148 : (.lays "java/lang/Throwable" "java/lang/Throwable" "detailMessage" "Ljava/lang/String;" : Cond) ∈ wa_all := wa_in3 (List.mem_of_getElem? (i := 28) rfl)
theorem wm_149 : (.lays "java/lang/IllegalArgumentException" "java/lang/Throwable" "backtrace" "Ljava/lang/Object;" : Cond) ∈ wa_all := wa_in3 (List.mem_of_getElem? (i := 29) rfl)
theorem wm_150 : (.lays "java/lang/Throwable" "java/lang/Throwable" "backtrace" "Ljava/lang/Object;" : Cond) ∈ wa_all := wa_in3 (List.mem_of_getElem? (i := 30) rfl)
theorem wm_151 : (.fieldLink "java/lang/Throwable" 198 "java/lang/Throwable" "backtrace" "Ljava/lang/Object;" : Cond) ∈ wa_all := wa_in3 (List.mem_of_getElem? (i := 31) rfl)
theorem wm_152 : (.superclass "java/lang/Throwable" "java/lang/Object" : Cond) ∈ wa_all := wa_in3 (List.mem_of_getElem? (i := 32) rfl)
theorem wm_153 : (.instanceMethod ⟨"java/lang/Throwable", "<init>", "()V"⟩ : Cond) ∈ wa_all := wa_in3 (List.mem_of_getElem? (i := 33) rfl)
theorem wm_154 : (.code ⟨"java/lang/Throwable", "<init>", "()V"⟩ prog_19_method_1_code 1 none : Cond) ∈ wa_all := wa_in3 (List.mem_of_getElem? (i := 34) rfl)
theorem wm_155 : (.methodLink "java/lang/Throwable" 1 objectInit : Cond) ∈ wa_all := wa_in3 (List.mem_of_getElem? (i := 35) rfl)
theorem wm_156 : (.fieldLink "java/lang/Throwable" 13 "java/lang/Throwable" "UNASSIGNED_STACK" "[Ljava/lang/StackTraceElement;" : Cond) ∈ wa_all := wa_in3 (List.mem_of_getElem? (i := 36) rfl)
theorem wm_157 : (.fieldLink "java/lang/Throwable" 20 "java/lang/Throwable" "SUPPRESSED_SENTINEL" "Ljava/util/List;" : Cond) ∈ wa_all := wa_in3 (List.mem_of_getElem? (i := 37) rfl)
theorem wm_158 : (.methodLink "java/lang/Throwable" 27 ⟨"java/lang/Throwable", "fillInStackTrace", "()Ljava/lang/Throwable;"⟩ : Cond) ∈ wa_all := wa_in3 (List.mem_of_getElem? (i := 38) rfl)
theorem wm_159 : (.instanceMethod ⟨"java/lang/Throwable", "fillInStackTrace", "()Ljava/lang/Throwable;"⟩ : Cond) ∈ wa_all := wa_in3 (List.mem_of_getElem? (i := 39) rfl)
theorem wm_160 : (.sameMethod "java/lang/Throwable" "java/lang/Throwable" "fillInStackTrace" "()Ljava/lang/Throwable;" : Cond) ∈ wa_all := wa_in4 (List.mem_of_getElem? (i := 0) rfl)
theorem wm_161 : (.selects "java/lang/IllegalStateException" ⟨"java/lang/Throwable", "fillInStackTrace", "()Ljava/lang/Throwable;"⟩ ⟨"java/lang/Throwable", "fillInStackTrace", "()Ljava/lang/Throwable;"⟩ : Cond) ∈ wa_all := wa_in4 (List.mem_of_getElem? (i := 1) rfl)
theorem wm_162 : (.selects "java/lang/IndexOutOfBoundsException" ⟨"java/lang/Throwable", "fillInStackTrace", "()Ljava/lang/Throwable;"⟩ ⟨"java/lang/Throwable", "fillInStackTrace", "()Ljava/lang/Throwable;"⟩ : Cond) ∈ wa_all := wa_in4 (List.mem_of_getElem? (i := 2) rfl)
theorem wm_163 : (.codeSync ⟨"java/lang/Throwable", "fillInStackTrace", "()Ljava/lang/Throwable;"⟩ prog_19_method_18_code 1 (some (.object "java/lang/Throwable")) : Cond) ∈ wa_all := wa_in4 (List.mem_of_getElem? (i := 3) rfl)
theorem wm_164 : (.methodLink "java/lang/Throwable" 202 ⟨"java/lang/Throwable", "fillInStackTrace", "(I)Ljava/lang/Throwable;"⟩ : Cond) ∈ wa_all := wa_in4 (List.mem_of_getElem? (i := 4) rfl)
theorem wm_165 : (.instanceMethod ⟨"java/lang/Throwable", "fillInStackTrace", "(I)Ljava/lang/Throwable;"⟩ : Cond) ∈ wa_all := wa_in4 (List.mem_of_getElem? (i := 5) rfl)
theorem wm_166 : (.instantiable "java/lang/Throwable" 6 : Cond) ∈ wa_all := wa_in4 (List.mem_of_getElem? (i := 6) rfl)
theorem wm_167 : (.native ⟨"java/lang/Throwable", "fillInStackTrace", "(I)Ljava/lang/Throwable;"⟩ : Cond) ∈ wa_all := wa_in4 (List.mem_of_getElem? (i := 7) rfl)
theorem wm_168 : (.arrayClass .byte : Cond) ∈ wa_all := wa_in4 (List.mem_of_getElem? (i := 8) rfl)
theorem wm_169 : (.native ⟨"java/lang/Object", "clone", "()Ljava/lang/Object;"⟩ : Cond) ∈ wa_all := wa_in4 (List.mem_of_getElem? (i := 9) rfl)
theorem wm_170 : (.instanceMethod ⟨"java/lang/Object", "clone", "()Ljava/lang/Object;"⟩ : Cond) ∈ wa_all := wa_in4 (List.mem_of_getElem? (i := 10) rfl)
theorem wm_171 : (.methodLink R_A 343 ⟨R_A, "checkLength", "(II)V"⟩ : Cond) ∈ wa_all := wa_in4 (List.mem_of_getElem? (i := 11) rfl)
theorem wm_172 : (.static ⟨R_A, "checkLength", "(II)V"⟩ : Cond) ∈ wa_all := wa_in4 (List.mem_of_getElem? (i := 12) rfl)
theorem wm_173 : (.code ⟨R_A, "checkLength", "(II)V"⟩ prog_20_method_131_code 2 none : Cond) ∈ wa_all := wa_in4 (List.mem_of_getElem? (i := 13) rfl)
theorem wm_174 : (.methodLink R_A 65 ⟨"java/lang/IllegalArgumentException", "<init>", "(Ljava/lang/String;)V"⟩ : Cond) ∈ wa_all := wa_in4 (List.mem_of_getElem? (i := 14) rfl)
theorem wm_175 : (.instanceMethod ⟨"java/lang/IllegalArgumentException", "<init>", "(Ljava/lang/String;)V"⟩ : Cond) ∈ wa_all := wa_in4 (List.mem_of_getElem? (i := 15) rfl)
theorem wm_176 : (.code ⟨"java/lang/IllegalArgumentException", "<init>", "(Ljava/lang/String;)V"⟩ prog_8_method_2_code 2 none : Cond) ∈ wa_all := wa_in4 (List.mem_of_getElem? (i := 16) rfl)
theorem wm_177 : (.methodLink "java/lang/IllegalArgumentException" 7 ⟨"java/lang/RuntimeException", "<init>", "(Ljava/lang/String;)V"⟩ : Cond) ∈ wa_all := wa_in4 (List.mem_of_getElem? (i := 17) rfl)
theorem wm_178 : (.instanceMethod ⟨"java/lang/RuntimeException", "<init>", "(Ljava/lang/String;)V"⟩ : Cond) ∈ wa_all := wa_in4 (List.mem_of_getElem? (i := 18) rfl)
theorem wm_179 : (.code ⟨"java/lang/RuntimeException", "<init>", "(Ljava/lang/String;)V"⟩ prog_13_method_2_code 2 none : Cond) ∈ wa_all := wa_in4 (List.mem_of_getElem? (i := 19) rfl)
theorem wm_180 : (.methodLink "java/lang/RuntimeException" 7 ⟨"java/lang/Exception", "<init>", "(Ljava/lang/String;)V"⟩ : Cond) ∈ wa_all := wa_in4 (List.mem_of_getElem? (i := 20) rfl)
theorem wm_181 : (.instanceMethod ⟨"java/lang/Exception", "<init>", "(Ljava/lang/String;)V"⟩ : Cond) ∈ wa_all := wa_in4 (List.mem_of_getElem? (i := 21) rfl)
theorem wm_182 : (.code ⟨"java/lang/Exception", "<init>", "(Ljava/lang/String;)V"⟩ prog_7_method_2_code 2 none : Cond) ∈ wa_all := wa_in4 (List.mem_of_getElem? (i := 22) rfl)
theorem wm_183 : (.methodLink "java/lang/Exception" 7 ⟨"java/lang/Throwable", "<init>", "(Ljava/lang/String;)V"⟩ : Cond) ∈ wa_all := wa_in4 (List.mem_of_getElem? (i := 23) rfl)
theorem wm_184 : (.instanceMethod ⟨"java/lang/Throwable", "<init>", "(Ljava/lang/String;)V"⟩ : Cond) ∈ wa_all := wa_in4 (List.mem_of_getElem? (i := 24) rfl)
theorem wm_185 : (.code ⟨"java/lang/Throwable", "<init>", "(Ljava/lang/String;)V"⟩ prog_19_method_2_code 2 none : Cond) ∈ wa_all := wa_in4 (List.mem_of_getElem? (i := 25) rfl)
theorem wm_186 : (.fieldLink "java/lang/Throwable" 198 "java/lang/Throwable" "backtrace" "Ljava/lang/Object;" : Cond) ∈ wa_all := wa_in4 (List.mem_of_getElem? (i := 26) rfl)
theorem wm_187 : (.fieldLink "java/lang/Throwable" 31 "java/lang/Throwable" "detailMessage" "Ljava/lang/String;" : Cond) ∈ wa_all := wa_in4 (List.mem_of_getElem? (i := 27) rfl)
theorem wm_188 : (.fieldLink "java/lang/Throwable" 7 "java/lang/Throwable" "cause" "Ljava/lang/Throwable;" : Cond) ∈ wa_all := wa_in4 (List.mem_of_getElem? (i := 28) rfl)
theorem wm_189 : (.fieldLink "java/lang/Throwable" 17 "java/lang/Throwable" "stackTrace" "[Ljava/lang/StackTraceElement;" : Cond) ∈ wa_all := wa_in4 (List.mem_of_getElem? (i := 29) rfl)
theorem wm_190 : (.fieldLink "java/lang/Throwable" 24 "java/lang/Throwable" "suppressedExceptions" "Ljava/util/List;" : Cond) ∈ wa_all := wa_in4 (List.mem_of_getElem? (i := 30) rfl)
theorem wm_191 : (.soleField "java/lang/Throwable" "backtrace" : Cond) ∈ wa_all := wa_in4 (List.mem_of_getElem? (i := 31) rfl)
theorem wm_192 : (.soleField "java/lang/Throwable" "detailMessage" : Cond) ∈ wa_all := wa_in4 (List.mem_of_getElem? (i := 32) rfl)
theorem wm_193 : (.soleField "java/lang/Throwable" "cause" : Cond) ∈ wa_all := wa_in4 (List.mem_of_getElem? (i := 33) rfl)
theorem wm_194 : (.soleField "java/lang/Throwable" "stackTrace" : Cond) ∈ wa_all := wa_in4 (List.mem_of_getElem? (i := 34) rfl)
theorem wm_195 : (.lays "java/lang/IllegalArgumentException" "java/lang/Throwable" "depth" "I" : Cond) ∈ wa_all := wa_in4 (List.mem_of_getElem? (i := 35) rfl)
theorem wm_196 : (.soleField "java/lang/Throwable" "depth" : Cond) ∈ wa_all := wa_in4 (List.mem_of_getElem? (i := 36) rfl)
theorem wm_197 : (.soleField "java/lang/Throwable" "suppressedExceptions" : Cond) ∈ wa_all := wa_in4 (List.mem_of_getElem? (i := 37) rfl)
theorem wm_198 : (.superclass "java/lang/IllegalArgumentException" "java/lang/RuntimeException" : Cond) ∈ wa_all := wa_in4 (List.mem_of_getElem? (i := 38) rfl)
theorem wm_199 : (.instanceMethod ⟨"java/lang/IndexOutOfBoundsException", "<init>", "(Ljava/lang/String;)V"⟩ : Cond) ∈ wa_all := wa_in4 (List.mem_of_getElem? (i := 39) rfl)
theorem wm_200 : (.code ⟨"java/lang/IndexOutOfBoundsException", "<init>", "(Ljava/lang/String;)V"⟩ prog_10_method_2_code 2 none : Cond) ∈ wa_all := wa_in5 (List.mem_of_getElem? (i := 0) rfl)
theorem wm_201 : (.methodLink "java/lang/IndexOutOfBoundsException" 7 ⟨"java/lang/RuntimeException", "<init>", "(Ljava/lang/String;)V"⟩ : Cond) ∈ wa_all := wa_in5 (List.mem_of_getElem? (i := 1) rfl)
theorem wm_202 : (.methodLink R_G 148 y_G_freeBlocksWithoutObjects : Cond) ∈ wa_all := wa_in5 (List.mem_of_getElem? (i := 2) rfl)
theorem wm_203 : (.instanceMethod y_G_freeBlocksWithoutObjects : Cond) ∈ wa_all := wa_in5 (List.mem_of_getElem? (i := 3) rfl)
theorem wm_204 : (.code y_G_freeBlocksWithoutObjects prog_1_method_40_code 2 none : Cond) ∈ wa_all := wa_in5 (List.mem_of_getElem? (i := 4) rfl)
theorem wm_205 : (.methodLink R_G 105 y_G_wordsInNoObject : Cond) ∈ wa_all := wa_in5 (List.mem_of_getElem? (i := 5) rfl)
theorem wm_206 : (.instanceMethod y_G_wordsInNoObject : Cond) ∈ wa_all := wa_in5 (List.mem_of_getElem? (i := 6) rfl)
theorem wm_207 : (.code y_G_wordsInNoObject prog_1_method_21_code 4 (some .int) : Cond) ∈ wa_all := wa_in5 (List.mem_of_getElem? (i := 7) rfl)
theorem wm_208 : (.methodLink R_L 67 y_G_base : Cond) ∈ wa_all := wa_in5 (List.mem_of_getElem? (i := 8) rfl)
theorem wm_209 : (.instanceMethod y_G_base : Cond) ∈ wa_all := wa_in5 (List.mem_of_getElem? (i := 9) rfl)
theorem wm_210 : (.selects R_G y_G_base y_G_base : Cond) ∈ wa_all := wa_in5 (List.mem_of_getElem? (i := 10) rfl)
theorem wm_211 : (.code y_G_base prog_1_method_8_code 3 (some .int) : Cond) ∈ wa_all := wa_in5 (List.mem_of_getElem? (i := 11) rfl)
theorem wm_212 : (.methodLink R_L 71 y_G_size : Cond) ∈ wa_all := wa_in5 (List.mem_of_getElem? (i := 12) rfl)
theorem wm_213 : (.instanceMethod y_G_size : Cond) ∈ wa_all := wa_in5 (List.mem_of_getElem? (i := 13) rfl)
theorem wm_214 : (.selects R_G y_G_size y_G_size : Cond) ∈ wa_all := wa_in5 (List.mem_of_getElem? (i := 14) rfl)
theorem wm_215 : (.code y_G_size prog_1_method_9_code 3 (some .int) : Cond) ∈ wa_all := wa_in5 (List.mem_of_getElem? (i := 15) rfl)
theorem wm_216 : (.methodLink R_L 75 y_G_silent : Cond) ∈ wa_all := wa_in5 (List.mem_of_getElem? (i := 16) rfl)
theorem wm_217 : (.instanceMethod y_G_silent : Cond) ∈ wa_all := wa_in5 (List.mem_of_getElem? (i := 17) rfl)
theorem wm_218 : (.selects R_G y_G_silent y_G_silent : Cond) ∈ wa_all := wa_in5 (List.mem_of_getElem? (i := 18) rfl)
theorem wm_219 : (.code y_G_silent prog_1_method_10_code 3 (some .boolean) : Cond) ∈ wa_all := wa_in5 (List.mem_of_getElem? (i := 19) rfl)
theorem wm_220 : (.methodLink R_L 80 y_G_block : Cond) ∈ wa_all := wa_in5 (List.mem_of_getElem? (i := 20) rfl)
theorem wm_221 : (.instanceMethod y_G_block : Cond) ∈ wa_all := wa_in5 (List.mem_of_getElem? (i := 21) rfl)
theorem wm_222 : (.selects R_G y_G_block y_G_block : Cond) ∈ wa_all := wa_in5 (List.mem_of_getElem? (i := 22) rfl)
theorem wm_223 : (.code y_G_block prog_1_method_11_code 2 (some .int) : Cond) ∈ wa_all := wa_in5 (List.mem_of_getElem? (i := 23) rfl)
theorem wm_224 : (.methodLink R_G 98 y_G_isBlock : Cond) ∈ wa_all := wa_in5 (List.mem_of_getElem? (i := 24) rfl)
theorem wm_225 : (.static y_G_isBlock : Cond) ∈ wa_all := wa_in5 (List.mem_of_getElem? (i := 25) rfl)
theorem wm_226 : (.code y_G_isBlock prog_1_method_16_code 1 (some .boolean) : Cond) ∈ wa_all := wa_in5 (List.mem_of_getElem? (i := 26) rfl)
theorem wm_227 : (.methodLink R_L 84 y_G_empty : Cond) ∈ wa_all := wa_in5 (List.mem_of_getElem? (i := 27) rfl)
theorem wm_228 : (.instanceMethod y_G_empty : Cond) ∈ wa_all := wa_in5 (List.mem_of_getElem? (i := 28) rfl)
theorem wm_229 : (.selects R_G y_G_empty y_G_empty : Cond) ∈ wa_all := wa_in5 (List.mem_of_getElem? (i := 29) rfl)
theorem wm_230 : (.code y_G_empty prog_1_method_12_code 2 (some .int) : Cond) ∈ wa_all := wa_in5 (List.mem_of_getElem? (i := 30) rfl)
theorem wm_231 : (.methodLink R_G 102 y_G_isSplit : Cond) ∈ wa_all := wa_in5 (List.mem_of_getElem? (i := 31) rfl)
theorem wm_232 : (.instanceMethod y_G_isSplit : Cond) ∈ wa_all := wa_in5 (List.mem_of_getElem? (i := 32) rfl)
theorem wm_233 : (.code y_G_isSplit prog_1_method_20_code 2 (some .boolean) : Cond) ∈ wa_all := wa_in5 (List.mem_of_getElem? (i := 33) rfl)
theorem wm_234 : (.methodLink R_L 88 y_G_objects : Cond) ∈ wa_all := wa_in5 (List.mem_of_getElem? (i := 34) rfl)
theorem wm_235 : (.instanceMethod y_G_objects : Cond) ∈ wa_all := wa_in5 (List.mem_of_getElem? (i := 35) rfl)
theorem wm_236 : (.selects R_G y_G_objects y_G_objects : Cond) ∈ wa_all := wa_in5 (List.mem_of_getElem? (i := 36) rfl)
theorem wm_237 : (.code y_G_objects prog_1_method_13_code 1 (some .int) : Cond) ∈ wa_all := wa_in5 (List.mem_of_getElem? (i := 37) rfl)
theorem wm_238 : (.methodLink R_L 92 y_G_collections : Cond) ∈ wa_all := wa_in5 (List.mem_of_getElem? (i := 38) rfl)
theorem wm_239 : (.instanceMethod y_G_collections : Cond) ∈ wa_all := wa_in5 (List.mem_of_getElem? (i := 39) rfl)
theorem wm_240 : (.selects R_G y_G_collections y_G_collections : Cond) ∈ wa_all := wa_in6 (List.mem_of_getElem? (i := 0) rfl)
theorem wm_241 : (.code y_G_collections prog_1_method_14_code 1 (some .int) : Cond) ∈ wa_all := wa_in6 (List.mem_of_getElem? (i := 1) rfl)
theorem wm_242 : (.methodLink R_L 38 y_L_allocate : Cond) ∈ wa_all := wa_in6 (List.mem_of_getElem? (i := 2) rfl)
theorem wm_243 : (.static y_L_allocate : Cond) ∈ wa_all := wa_in6 (List.mem_of_getElem? (i := 3) rfl)
theorem wm_244 : (.codeWith y_L_allocate method_3_code 5 (some .int) [(0, 10, 13, 13), (0, 10, 17, 15)] : Cond) ∈ wa_all := wa_in6 (List.mem_of_getElem? (i := 4) rfl)
theorem wm_245 : (.classLink R_L 13 "java/lang/IllegalArgumentException" : Cond) ∈ wa_all := wa_in6 (List.mem_of_getElem? (i := 5) rfl)
theorem wm_246 : (.classLink R_L 15 "java/lang/IllegalStateException" : Cond) ∈ wa_all := wa_in6 (List.mem_of_getElem? (i := 6) rfl)
theorem wm_247 : (.methodLink R_L 7 y_G_allocate : Cond) ∈ wa_all := wa_in6 (List.mem_of_getElem? (i := 7) rfl)
theorem wm_248 : (.instanceMethod y_G_allocate : Cond) ∈ wa_all := wa_in6 (List.mem_of_getElem? (i := 8) rfl)
theorem wm_249 : (.selects R_G y_G_allocate y_G_allocate : Cond) ∈ wa_all := wa_in6 (List.mem_of_getElem? (i := 9) rfl)
theorem wm_250 : (.code y_G_allocate prog_1_method_2_code 4 (some .int) : Cond) ∈ wa_all := wa_in6 (List.mem_of_getElem? (i := 10) rfl)
theorem wm_251 : (.classLink R_G 54 "java/lang/IllegalArgumentException" : Cond) ∈ wa_all := wa_in6 (List.mem_of_getElem? (i := 11) rfl)
theorem wm_252 : (.methodLink R_G 58 ⟨"java/lang/IllegalArgumentException", "<init>", "(Ljava/lang/String;)V"⟩ : Cond) ∈ wa_all := wa_in6 (List.mem_of_getElem? (i := 12) rfl)
theorem wm_253 : (.methodLink R_G 61 y_G_findRoom : Cond) ∈ wa_all := wa_in6 (List.mem_of_getElem? (i := 13) rfl)
theorem wm_254 : (.instanceMethod y_G_findRoom : Cond) ∈ wa_all := wa_in6 (List.mem_of_getElem? (i := 14) rfl)
theorem wm_255 : (.code y_G_findRoom prog_1_method_24_code 4 (some .int) : Cond) ∈ wa_all := wa_in6 (List.mem_of_getElem? (i := 15) rfl)
theorem wm_256 : (.methodLink R_G 82 y_G_blocksFor : Cond) ∈ wa_all := wa_in6 (List.mem_of_getElem? (i := 16) rfl)
theorem wm_257 : (.static y_G_blocksFor : Cond) ∈ wa_all := wa_in6 (List.mem_of_getElem? (i := 17) rfl)
theorem wm_258 : (.code y_G_blocksFor prog_1_method_23_code 1 (some .int) : Cond) ∈ wa_all := wa_in6 (List.mem_of_getElem? (i := 18) rfl)
theorem wm_259 : (.methodLink R_G 120 y_G_findBlocks : Cond) ∈ wa_all := wa_in6 (List.mem_of_getElem? (i := 19) rfl)
theorem wm_260 : (.instanceMethod y_G_findBlocks : Cond) ∈ wa_all := wa_in6 (List.mem_of_getElem? (i := 20) rfl)
theorem wm_261 : (.code y_G_findBlocks prog_1_method_26_code 6 (some .int) : Cond) ∈ wa_all := wa_in6 (List.mem_of_getElem? (i := 21) rfl)
theorem wm_262 : (.methodLink R_G 74 y_G_slotSize : Cond) ∈ wa_all := wa_in6 (List.mem_of_getElem? (i := 22) rfl)
theorem wm_263 : (.static y_G_slotSize : Cond) ∈ wa_all := wa_in6 (List.mem_of_getElem? (i := 23) rfl)
theorem wm_264 : (.code y_G_slotSize prog_1_method_22_code 2 (some .int) : Cond) ∈ wa_all := wa_in6 (List.mem_of_getElem? (i := 24) rfl)
theorem wm_265 : (.methodLink R_G 123 y_G_findEmptySlot : Cond) ∈ wa_all := wa_in6 (List.mem_of_getElem? (i := 25) rfl)
theorem wm_266 : (.instanceMethod y_G_findEmptySlot : Cond) ∈ wa_all := wa_in6 (List.mem_of_getElem? (i := 26) rfl)
theorem wm_267 : (.code y_G_findEmptySlot prog_1_method_25_code 3 (some .int) : Cond) ∈ wa_all := wa_in6 (List.mem_of_getElem? (i := 27) rfl)
theorem wm_268 : (.classLink R_G 69 "java/lang/IllegalStateException" : Cond) ∈ wa_all := wa_in6 (List.mem_of_getElem? (i := 28) rfl)
theorem wm_269 : (.instantiable "java/lang/IllegalStateException" 6 : Cond) ∈ wa_all := wa_in6 (List.mem_of_getElem? (i := 29) rfl)
theorem wm_270 : (.selects "java/lang/IllegalStateException" ⟨"java/lang/Throwable", "fillInStackTrace", "(I)Ljava/lang/Throwable;"⟩ ⟨"java/lang/Throwable", "fillInStackTrace", "(I)Ljava/lang/Throwable;"⟩ : Cond) ∈ wa_all := wa_in6 (List.mem_of_getElem? (i := 30) rfl)
theorem wm_271 : (.lays "java/lang/IllegalStateException" "java/lang/Throwable" "cause" "Ljava/lang/Throwable;" : Cond) ∈ wa_all := wa_in6 (List.mem_of_getElem? (i := 31) rfl)
theorem wm_272 : (.lays "java/lang/IllegalStateException" "java/lang/Throwable" "stackTrace" "[Ljava/lang/StackTraceElement;" : Cond) ∈ wa_all := wa_in6 (List.mem_of_getElem? (i := 32) rfl)
theorem wm_273 : (.lays "java/lang/IllegalStateException" "java/lang/Throwable" "suppressedExceptions" "Ljava/util/List;" : Cond) ∈ wa_all := wa_in6 (List.mem_of_getElem? (i := 33) rfl)
theorem wm_274 : (.lays "java/lang/IllegalStateException" "java/lang/Throwable" "detailMessage" "Ljava/lang/String;" : Cond) ∈ wa_all := wa_in6 (List.mem_of_getElem? (i := 34) rfl)
theorem wm_275 : (.lays "java/lang/IllegalStateException" "java/lang/Throwable" "backtrace" "Ljava/lang/Object;" : Cond) ∈ wa_all := wa_in6 (List.mem_of_getElem? (i := 35) rfl)
theorem wm_276 : (.methodLink R_G 73 ⟨"java/lang/IllegalStateException", "<init>", "(Ljava/lang/String;)V"⟩ : Cond) ∈ wa_all := wa_in6 (List.mem_of_getElem? (i := 36) rfl)
theorem wm_277 : (.instanceMethod ⟨"java/lang/IllegalStateException", "<init>", "(Ljava/lang/String;)V"⟩ : Cond) ∈ wa_all := wa_in6 (List.mem_of_getElem? (i := 37) rfl)
theorem wm_278 : (.code ⟨"java/lang/IllegalStateException", "<init>", "(Ljava/lang/String;)V"⟩ prog_9_method_2_code 2 none : Cond) ∈ wa_all := wa_in6 (List.mem_of_getElem? (i := 38) rfl)
theorem wm_279 : (.methodLink "java/lang/IllegalStateException" 7 ⟨"java/lang/RuntimeException", "<init>", "(Ljava/lang/String;)V"⟩ : Cond) ∈ wa_all := wa_in6 (List.mem_of_getElem? (i := 39) rfl)
theorem wm_280 : (.lays "java/lang/IllegalStateException" "java/lang/Throwable" "depth" "I" : Cond) ∈ wa_all := wa_in7 (List.mem_of_getElem? (i := 0) rfl)
theorem wm_281 : (.superclass "java/lang/IllegalStateException" "java/lang/RuntimeException" : Cond) ∈ wa_all := wa_in7 (List.mem_of_getElem? (i := 1) rfl)
theorem wm_282 : (.methodLink R_G 78 y_G_placeSmall : Cond) ∈ wa_all := wa_in7 (List.mem_of_getElem? (i := 2) rfl)
theorem wm_283 : (.instanceMethod y_G_placeSmall : Cond) ∈ wa_all := wa_in7 (List.mem_of_getElem? (i := 3) rfl)
theorem wm_284 : (.code y_G_placeSmall prog_1_method_27_code 4 none : Cond) ∈ wa_all := wa_in7 (List.mem_of_getElem? (i := 4) rfl)
theorem wm_285 : (.methodLink R_G 126 y_G_takeBlock : Cond) ∈ wa_all := wa_in7 (List.mem_of_getElem? (i := 5) rfl)
theorem wm_286 : (.instanceMethod y_G_takeBlock : Cond) ∈ wa_all := wa_in7 (List.mem_of_getElem? (i := 6) rfl)
theorem wm_287 : (.code y_G_takeBlock prog_1_method_29_code 3 none : Cond) ∈ wa_all := wa_in7 (List.mem_of_getElem? (i := 7) rfl)
theorem wm_288 : (.methodLink R_G 130 y_G_placeObject : Cond) ∈ wa_all := wa_in7 (List.mem_of_getElem? (i := 8) rfl)
theorem wm_289 : (.instanceMethod y_G_placeObject : Cond) ∈ wa_all := wa_in7 (List.mem_of_getElem? (i := 9) rfl)
theorem wm_290 : (.code y_G_placeObject prog_1_method_30_code 4 none : Cond) ∈ wa_all := wa_in7 (List.mem_of_getElem? (i := 10) rfl)
theorem wm_291 : (.methodLink R_G 85 y_G_placeLarge : Cond) ∈ wa_all := wa_in7 (List.mem_of_getElem? (i := 11) rfl)
theorem wm_292 : (.instanceMethod y_G_placeLarge : Cond) ∈ wa_all := wa_in7 (List.mem_of_getElem? (i := 12) rfl)
theorem wm_293 : (.code y_G_placeLarge prog_1_method_28_code 6 none : Cond) ∈ wa_all := wa_in7 (List.mem_of_getElem? (i := 13) rfl)
theorem wm_294 : (.methodLink R_L 48 y_L_root : Cond) ∈ wa_all := wa_in7 (List.mem_of_getElem? (i := 14) rfl)
theorem wm_295 : (.static y_L_root : Cond) ∈ wa_all := wa_in7 (List.mem_of_getElem? (i := 15) rfl)
theorem wm_296 : (.codeWith y_L_root method_4_code 4 (some .int) [(0, 6, 9, 21)] : Cond) ∈ wa_all := wa_in7 (List.mem_of_getElem? (i := 16) rfl)
theorem wm_297 : (.classLink R_L 21 "java/lang/IndexOutOfBoundsException" : Cond) ∈ wa_all := wa_in7 (List.mem_of_getElem? (i := 17) rfl)
theorem wm_298 : (.methodLink R_L 17 y_G_root : Cond) ∈ wa_all := wa_in7 (List.mem_of_getElem? (i := 18) rfl)
theorem wm_299 : (.instanceMethod y_G_root : Cond) ∈ wa_all := wa_in7 (List.mem_of_getElem? (i := 19) rfl)
theorem wm_300 : (.selects R_G y_G_root y_G_root : Cond) ∈ wa_all := wa_in7 (List.mem_of_getElem? (i := 20) rfl)
theorem wm_301 : (.code y_G_root prog_1_method_3_code 3 none : Cond) ∈ wa_all := wa_in7 (List.mem_of_getElem? (i := 21) rfl)
theorem wm_302 : (.methodLink R_G 88 y_G_checkRoot : Cond) ∈ wa_all := wa_in7 (List.mem_of_getElem? (i := 22) rfl)
theorem wm_303 : (.static y_G_checkRoot : Cond) ∈ wa_all := wa_in7 (List.mem_of_getElem? (i := 23) rfl)
theorem wm_304 : (.code y_G_checkRoot prog_1_method_17_code 1 none : Cond) ∈ wa_all := wa_in7 (List.mem_of_getElem? (i := 24) rfl)
theorem wm_305 : (.classLink R_G 108 "java/lang/IndexOutOfBoundsException" : Cond) ∈ wa_all := wa_in7 (List.mem_of_getElem? (i := 25) rfl)
theorem wm_306 : (.instantiable "java/lang/IndexOutOfBoundsException" 6 : Cond) ∈ wa_all := wa_in7 (List.mem_of_getElem? (i := 26) rfl)
theorem wm_307 : (.selects "java/lang/IndexOutOfBoundsException" ⟨"java/lang/Throwable", "fillInStackTrace", "(I)Ljava/lang/Throwable;"⟩ ⟨"java/lang/Throwable", "fillInStackTrace", "(I)Ljava/lang/Throwable;"⟩ : Cond) ∈ wa_all := wa_in7 (List.mem_of_getElem? (i := 27) rfl)
theorem wm_308 : (.lays "java/lang/IndexOutOfBoundsException" "java/lang/Throwable" "cause" "Ljava/lang/Throwable;" : Cond) ∈ wa_all := wa_in7 (List.mem_of_getElem? (i := 28) rfl)
theorem wm_309 : (.lays "java/lang/IndexOutOfBoundsException" "java/lang/Throwable" "stackTrace" "[Ljava/lang/StackTraceElement;" : Cond) ∈ wa_all := wa_in7 (List.mem_of_getElem? (i := 29) rfl)
theorem wm_310 : (.lays "java/lang/IndexOutOfBoundsException" "java/lang/Throwable" "suppressedExceptions" "Ljava/util/List;" : Cond) ∈ wa_all := wa_in7 (List.mem_of_getElem? (i := 30) rfl)
theorem wm_311 : (.lays "java/lang/IndexOutOfBoundsException" "java/lang/Throwable" "detailMessage" "Ljava/lang/String;" : Cond) ∈ wa_all := wa_in7 (List.mem_of_getElem? (i := 31) rfl)
theorem wm_312 : (.lays "java/lang/IndexOutOfBoundsException" "java/lang/Throwable" "backtrace" "Ljava/lang/Object;" : Cond) ∈ wa_all := wa_in7 (List.mem_of_getElem? (i := 32) rfl)
theorem wm_313 : (.methodLink R_G 112 ⟨"java/lang/IndexOutOfBoundsException", "<init>", "(Ljava/lang/String;)V"⟩ : Cond) ∈ wa_all := wa_in7 (List.mem_of_getElem? (i := 33) rfl)
theorem wm_314 : (.lays "java/lang/IndexOutOfBoundsException" "java/lang/Throwable" "depth" "I" : Cond) ∈ wa_all := wa_in7 (List.mem_of_getElem? (i := 34) rfl)
theorem wm_315 : (.superclass "java/lang/IndexOutOfBoundsException" "java/lang/RuntimeException" : Cond) ∈ wa_all := wa_in7 (List.mem_of_getElem? (i := 35) rfl)
theorem wm_316 : (.methodLink R_L 52 y_L_rooted : Cond) ∈ wa_all := wa_in7 (List.mem_of_getElem? (i := 36) rfl)
theorem wm_317 : (.static y_L_rooted : Cond) ∈ wa_all := wa_in7 (List.mem_of_getElem? (i := 37) rfl)
theorem wm_318 : (.codeWith y_L_rooted method_5_code 4 (some .int) [(0, 9, 12, 21)] : Cond) ∈ wa_all := wa_in7 (List.mem_of_getElem? (i := 38) rfl)
theorem wm_319 : (.methodLink R_L 23 y_G_rooted : Cond) ∈ wa_all := wa_in7 (List.mem_of_getElem? (i := 39) rfl)
theorem wm_320 : (.instanceMethod y_G_rooted : Cond) ∈ wa_all := wa_in8 (List.mem_of_getElem? (i := 0) rfl)
theorem wm_321 : (.selects R_G y_G_rooted y_G_rooted : Cond) ∈ wa_all := wa_in8 (List.mem_of_getElem? (i := 1) rfl)
theorem wm_322 : (.code y_G_rooted prog_1_method_4_code 2 (some .int) : Cond) ∈ wa_all := wa_in8 (List.mem_of_getElem? (i := 2) rfl)
theorem wm_323 : (.methodLink R_L 56 y_L_read : Cond) ∈ wa_all := wa_in8 (List.mem_of_getElem? (i := 3) rfl)
theorem wm_324 : (.static y_L_read : Cond) ∈ wa_all := wa_in8 (List.mem_of_getElem? (i := 4) rfl)
theorem wm_325 : (.codeWith y_L_read method_6_code 4 (some .int) [(0, 9, 12, 21), (0, 9, 15, 15)] : Cond) ∈ wa_all := wa_in8 (List.mem_of_getElem? (i := 5) rfl)
theorem wm_326 : (.methodLink R_L 27 y_G_read : Cond) ∈ wa_all := wa_in8 (List.mem_of_getElem? (i := 6) rfl)
theorem wm_327 : (.instanceMethod y_G_read : Cond) ∈ wa_all := wa_in8 (List.mem_of_getElem? (i := 7) rfl)
theorem wm_328 : (.selects R_G y_G_read y_G_read : Cond) ∈ wa_all := wa_in8 (List.mem_of_getElem? (i := 8) rfl)
theorem wm_329 : (.code y_G_read prog_1_method_5_code 2 (some .int) : Cond) ∈ wa_all := wa_in8 (List.mem_of_getElem? (i := 9) rfl)
theorem wm_330 : (.methodLink R_G 92 y_G_checkInObject : Cond) ∈ wa_all := wa_in8 (List.mem_of_getElem? (i := 10) rfl)
theorem wm_331 : (.instanceMethod y_G_checkInObject : Cond) ∈ wa_all := wa_in8 (List.mem_of_getElem? (i := 11) rfl)
theorem wm_332 : (.code y_G_checkInObject prog_1_method_18_code 2 none : Cond) ∈ wa_all := wa_in8 (List.mem_of_getElem? (i := 12) rfl)
theorem wm_333 : (.methodLink R_L 59 y_L_write : Cond) ∈ wa_all := wa_in8 (List.mem_of_getElem? (i := 13) rfl)
theorem wm_334 : (.static y_L_write : Cond) ∈ wa_all := wa_in8 (List.mem_of_getElem? (i := 14) rfl)
theorem wm_335 : (.codeWith y_L_write method_7_code 5 (some .int) [(0, 10, 13, 21), (0, 10, 17, 15)] : Cond) ∈ wa_all := wa_in8 (List.mem_of_getElem? (i := 15) rfl)
theorem wm_336 : (.methodLink R_L 30 y_G_write : Cond) ∈ wa_all := wa_in8 (List.mem_of_getElem? (i := 16) rfl)
theorem wm_337 : (.instanceMethod y_G_write : Cond) ∈ wa_all := wa_in8 (List.mem_of_getElem? (i := 17) rfl)
theorem wm_338 : (.selects R_G y_G_write y_G_write : Cond) ∈ wa_all := wa_in8 (List.mem_of_getElem? (i := 18) rfl)
theorem wm_339 : (.code y_G_write prog_1_method_6_code 4 (some .int) : Cond) ∈ wa_all := wa_in8 (List.mem_of_getElem? (i := 19) rfl)
theorem wm_340 : (.classLink R_L 35 R_M : Cond) ∈ wa_all := wa_in8 (List.mem_of_getElem? (i := 20) rfl)
theorem wm_341 : (.instantiable R_M 11 : Cond) ∈ wa_all := wa_in8 (List.mem_of_getElem? (i := 21) rfl)
theorem wm_342 : (.methodLink R_L 37 y_M_init : Cond) ∈ wa_all := wa_in8 (List.mem_of_getElem? (i := 22) rfl)
theorem wm_343 : (.instanceMethod y_M_init : Cond) ∈ wa_all := wa_in8 (List.mem_of_getElem? (i := 23) rfl)
theorem wm_344 : (.code y_M_init prog_3_method_1_code 1 none : Cond) ∈ wa_all := wa_in8 (List.mem_of_getElem? (i := 24) rfl)
theorem wm_345 : (.methodLink R_M 1 objectInit : Cond) ∈ wa_all := wa_in8 (List.mem_of_getElem? (i := 25) rfl)
theorem wm_346 : (.fieldLink R_M 35 R_M "thrown" "I" : Cond) ∈ wa_all := wa_in8 (List.mem_of_getElem? (i := 26) rfl)
theorem wm_347 : (.fieldLink R_M 7 R_M "roots" "[I" : Cond) ∈ wa_all := wa_in8 (List.mem_of_getElem? (i := 27) rfl)
theorem wm_348 : (.fieldLink R_M 13 R_M "word" "[I" : Cond) ∈ wa_all := wa_in8 (List.mem_of_getElem? (i := 28) rfl)
theorem wm_349 : (.fieldLink R_M 16 R_M "of" "[I" : Cond) ∈ wa_all := wa_in8 (List.mem_of_getElem? (i := 29) rfl)
theorem wm_350 : (.fieldLink R_M 19 R_M "many" "[I" : Cond) ∈ wa_all := wa_in8 (List.mem_of_getElem? (i := 30) rfl)
theorem wm_351 : (.fieldLink R_M 22 R_M "quiet" "[Z" : Cond) ∈ wa_all := wa_in8 (List.mem_of_getElem? (i := 31) rfl)
theorem wm_352 : (.fieldLink R_M 26 R_M "marked" "[Z" : Cond) ∈ wa_all := wa_in8 (List.mem_of_getElem? (i := 32) rfl)
theorem wm_353 : (.fieldLink R_M 29 R_M "kind" "[I" : Cond) ∈ wa_all := wa_in8 (List.mem_of_getElem? (i := 33) rfl)
theorem wm_354 : (.fieldLink R_M 32 R_M "doubtful" "[Z" : Cond) ∈ wa_all := wa_in8 (List.mem_of_getElem? (i := 34) rfl)
theorem wm_355 : (.fieldLink R_M 53 R_M "collected" "I" : Cond) ∈ wa_all := wa_in8 (List.mem_of_getElem? (i := 35) rfl)
theorem wm_356 : (.fieldLink R_M 50 R_M "given" "I" : Cond) ∈ wa_all := wa_in8 (List.mem_of_getElem? (i := 36) rfl)
theorem wm_357 : (.lays R_M R_M "thrown" "I" : Cond) ∈ wa_all := wa_in8 (List.mem_of_getElem? (i := 37) rfl)
theorem wm_358 : (.soleField R_M "thrown" : Cond) ∈ wa_all := wa_in8 (List.mem_of_getElem? (i := 38) rfl)
theorem wm_359 : (.lays R_M R_M "roots" "[I" : Cond) ∈ wa_all := wa_in8 (List.mem_of_getElem? (i := 39) rfl)
theorem wm_360 : (.soleField R_M "roots" : Cond) ∈ wa_all := wa_in9 (List.mem_of_getElem? (i := 0) rfl)
theorem wm_361 : (.lays R_M R_M "word" "[I" : Cond) ∈ wa_all := wa_in9 (List.mem_of_getElem? (i := 1) rfl)
theorem wm_362 : (.soleField R_M "word" : Cond) ∈ wa_all := wa_in9 (List.mem_of_getElem? (i := 2) rfl)
theorem wm_363 : (.lays R_M R_M "of" "[I" : Cond) ∈ wa_all := wa_in9 (List.mem_of_getElem? (i := 3) rfl)
theorem wm_364 : (.soleField R_M "of" : Cond) ∈ wa_all := wa_in9 (List.mem_of_getElem? (i := 4) rfl)
theorem wm_365 : (.lays R_M R_M "many" "[I" : Cond) ∈ wa_all := wa_in9 (List.mem_of_getElem? (i := 5) rfl)
theorem wm_366 : (.soleField R_M "many" : Cond) ∈ wa_all := wa_in9 (List.mem_of_getElem? (i := 6) rfl)
theorem wm_367 : (.lays R_M R_M "quiet" "[Z" : Cond) ∈ wa_all := wa_in9 (List.mem_of_getElem? (i := 7) rfl)
theorem wm_368 : (.soleField R_M "quiet" : Cond) ∈ wa_all := wa_in9 (List.mem_of_getElem? (i := 8) rfl)
theorem wm_369 : (.lays R_M R_M "marked" "[Z" : Cond) ∈ wa_all := wa_in9 (List.mem_of_getElem? (i := 9) rfl)
theorem wm_370 : (.soleField R_M "marked" : Cond) ∈ wa_all := wa_in9 (List.mem_of_getElem? (i := 10) rfl)
theorem wm_371 : (.lays R_M R_M "kind" "[I" : Cond) ∈ wa_all := wa_in9 (List.mem_of_getElem? (i := 11) rfl)
theorem wm_372 : (.soleField R_M "kind" : Cond) ∈ wa_all := wa_in9 (List.mem_of_getElem? (i := 12) rfl)
theorem wm_373 : (.lays R_M R_M "doubtful" "[Z" : Cond) ∈ wa_all := wa_in9 (List.mem_of_getElem? (i := 13) rfl)
theorem wm_374 : (.soleField R_M "doubtful" : Cond) ∈ wa_all := wa_in9 (List.mem_of_getElem? (i := 14) rfl)
theorem wm_375 : (.lays R_M R_M "collected" "I" : Cond) ∈ wa_all := wa_in9 (List.mem_of_getElem? (i := 15) rfl)
theorem wm_376 : (.soleField R_M "collected" : Cond) ∈ wa_all := wa_in9 (List.mem_of_getElem? (i := 16) rfl)
theorem wm_377 : (.lays R_M R_M "given" "I" : Cond) ∈ wa_all := wa_in9 (List.mem_of_getElem? (i := 17) rfl)
theorem wm_378 : (.soleField R_M "given" : Cond) ∈ wa_all := wa_in9 (List.mem_of_getElem? (i := 18) rfl)
theorem wm_379 : (.superclass R_M "java/lang/Object" : Cond) ∈ wa_all := wa_in9 (List.mem_of_getElem? (i := 19) rfl)
theorem wm_380 : (.methodLink R_L 44 y_M_thrown : Cond) ∈ wa_all := wa_in9 (List.mem_of_getElem? (i := 20) rfl)
theorem wm_381 : (.instanceMethod y_M_thrown : Cond) ∈ wa_all := wa_in9 (List.mem_of_getElem? (i := 21) rfl)
theorem wm_382 : (.selects R_M y_M_thrown y_M_thrown : Cond) ∈ wa_all := wa_in9 (List.mem_of_getElem? (i := 22) rfl)
theorem wm_383 : (.code y_M_thrown prog_3_method_2_code 1 (some .int) : Cond) ∈ wa_all := wa_in9 (List.mem_of_getElem? (i := 23) rfl)
theorem wm_384 : (.methodLink R_L 43 y_M_allocate : Cond) ∈ wa_all := wa_in9 (List.mem_of_getElem? (i := 24) rfl)
theorem wm_385 : (.instanceMethod y_M_allocate : Cond) ∈ wa_all := wa_in9 (List.mem_of_getElem? (i := 25) rfl)
theorem wm_386 : (.selects R_M y_M_allocate y_M_allocate : Cond) ∈ wa_all := wa_in9 (List.mem_of_getElem? (i := 26) rfl)
theorem wm_387 : (.code y_M_allocate prog_3_method_16_code 4 (some .int) : Cond) ∈ wa_all := wa_in9 (List.mem_of_getElem? (i := 27) rfl)
theorem wm_388 : (.methodLink R_M 81 y_M_room : Cond) ∈ wa_all := wa_in9 (List.mem_of_getElem? (i := 28) rfl)
theorem wm_389 : (.instanceMethod y_M_room : Cond) ∈ wa_all := wa_in9 (List.mem_of_getElem? (i := 29) rfl)
theorem wm_390 : (.code y_M_room prog_3_method_14_code 3 (some .int) : Cond) ∈ wa_all := wa_in9 (List.mem_of_getElem? (i := 30) rfl)
theorem wm_391 : (.methodLink R_M 71 y_M_sizeFor : Cond) ∈ wa_all := wa_in9 (List.mem_of_getElem? (i := 31) rfl)
theorem wm_392 : (.static y_M_sizeFor : Cond) ∈ wa_all := wa_in9 (List.mem_of_getElem? (i := 32) rfl)
theorem wm_393 : (.code y_M_sizeFor prog_3_method_11_code 1 (some .int) : Cond) ∈ wa_all := wa_in9 (List.mem_of_getElem? (i := 33) rfl)
theorem wm_394 : (.methodLink R_M 74 y_M_smallRoom : Cond) ∈ wa_all := wa_in9 (List.mem_of_getElem? (i := 34) rfl)
theorem wm_395 : (.instanceMethod y_M_smallRoom : Cond) ∈ wa_all := wa_in9 (List.mem_of_getElem? (i := 35) rfl)
theorem wm_396 : (.code y_M_smallRoom prog_3_method_12_code 4 (some .int) : Cond) ∈ wa_all := wa_in9 (List.mem_of_getElem? (i := 36) rfl)
theorem wm_397 : (.methodLink R_M 67 y_M_isOpen : Cond) ∈ wa_all := wa_in9 (List.mem_of_getElem? (i := 37) rfl)
theorem wm_398 : (.instanceMethod y_M_isOpen : Cond) ∈ wa_all := wa_in9 (List.mem_of_getElem? (i := 38) rfl)
theorem wm_399 : (.code y_M_isOpen prog_3_method_10_code 3 (some .boolean) : Cond) ∈ wa_all := wa_in9 (List.mem_of_getElem? (i := 39) rfl)
theorem wm_400 : (.methodLink R_M 78 y_M_largeRoom : Cond) ∈ wa_all := wa_in10 (List.mem_of_getElem? (i := 0) rfl)
theorem wm_401 : (.instanceMethod y_M_largeRoom : Cond) ∈ wa_all := wa_in10 (List.mem_of_getElem? (i := 1) rfl)
theorem wm_402 : (.code y_M_largeRoom prog_3_method_13_code 6 (some .int) : Cond) ∈ wa_all := wa_in10 (List.mem_of_getElem? (i := 2) rfl)
theorem wm_403 : (.methodLink R_M 84 y_M_gather : Cond) ∈ wa_all := wa_in10 (List.mem_of_getElem? (i := 3) rfl)
theorem wm_404 : (.instanceMethod y_M_gather : Cond) ∈ wa_all := wa_in10 (List.mem_of_getElem? (i := 4) rfl)
theorem wm_405 : (.code y_M_gather prog_3_method_9_code 3 none : Cond) ∈ wa_all := wa_in10 (List.mem_of_getElem? (i := 5) rfl)
theorem wm_406 : (.methodLink R_M 56 y_M_lookAtAll : Cond) ∈ wa_all := wa_in10 (List.mem_of_getElem? (i := 6) rfl)
theorem wm_407 : (.instanceMethod y_M_lookAtAll : Cond) ∈ wa_all := wa_in10 (List.mem_of_getElem? (i := 7) rfl)
theorem wm_408 : (.code y_M_lookAtAll prog_3_method_6_code 5 (some .boolean) : Cond) ∈ wa_all := wa_in10 (List.mem_of_getElem? (i := 8) rfl)
theorem wm_409 : (.methodLink R_M 47 y_M_look : Cond) ∈ wa_all := wa_in10 (List.mem_of_getElem? (i := 9) rfl)
theorem wm_410 : (.instanceMethod y_M_look : Cond) ∈ wa_all := wa_in10 (List.mem_of_getElem? (i := 10) rfl)
theorem wm_411 : (.code y_M_look prog_3_method_5_code 4 (some .boolean) : Cond) ∈ wa_all := wa_in10 (List.mem_of_getElem? (i := 11) rfl)
theorem wm_412 : (.methodLink R_M 39 y_M_isAddress : Cond) ∈ wa_all := wa_in10 (List.mem_of_getElem? (i := 12) rfl)
theorem wm_413 : (.static y_M_isAddress : Cond) ∈ wa_all := wa_in10 (List.mem_of_getElem? (i := 13) rfl)
theorem wm_414 : (.code y_M_isAddress prog_3_method_3_code 1 (some .boolean) : Cond) ∈ wa_all := wa_in10 (List.mem_of_getElem? (i := 14) rfl)
theorem wm_415 : (.methodLink R_M 43 y_M_objectAt : Cond) ∈ wa_all := wa_in10 (List.mem_of_getElem? (i := 15) rfl)
theorem wm_416 : (.instanceMethod y_M_objectAt : Cond) ∈ wa_all := wa_in10 (List.mem_of_getElem? (i := 16) rfl)
theorem wm_417 : (.code y_M_objectAt prog_3_method_4_code 2 (some .int) : Cond) ∈ wa_all := wa_in10 (List.mem_of_getElem? (i := 17) rfl)
theorem wm_418 : (.methodLink R_M 60 y_M_giveUp : Cond) ∈ wa_all := wa_in10 (List.mem_of_getElem? (i := 18) rfl)
theorem wm_419 : (.instanceMethod y_M_giveUp : Cond) ∈ wa_all := wa_in10 (List.mem_of_getElem? (i := 19) rfl)
theorem wm_420 : (.code y_M_giveUp prog_3_method_7_code 4 none : Cond) ∈ wa_all := wa_in10 (List.mem_of_getElem? (i := 20) rfl)
theorem wm_421 : (.methodLink R_M 64 y_M_isBare : Cond) ∈ wa_all := wa_in10 (List.mem_of_getElem? (i := 21) rfl)
theorem wm_422 : (.instanceMethod y_M_isBare : Cond) ∈ wa_all := wa_in10 (List.mem_of_getElem? (i := 22) rfl)
theorem wm_423 : (.code y_M_isBare prog_3_method_8_code 4 (some .boolean) : Cond) ∈ wa_all := wa_in10 (List.mem_of_getElem? (i := 23) rfl)
theorem wm_424 : (.methodLink R_M 87 y_M_settle : Cond) ∈ wa_all := wa_in10 (List.mem_of_getElem? (i := 24) rfl)
theorem wm_425 : (.instanceMethod y_M_settle : Cond) ∈ wa_all := wa_in10 (List.mem_of_getElem? (i := 25) rfl)
theorem wm_426 : (.code y_M_settle prog_3_method_15_code 6 none : Cond) ∈ wa_all := wa_in10 (List.mem_of_getElem? (i := 26) rfl)
theorem wm_427 : (.methodLink R_L 66 y_M_collect : Cond) ∈ wa_all := wa_in10 (List.mem_of_getElem? (i := 27) rfl)
theorem wm_428 : (.instanceMethod y_M_collect : Cond) ∈ wa_all := wa_in10 (List.mem_of_getElem? (i := 28) rfl)
theorem wm_429 : (.selects R_M y_M_collect y_M_collect : Cond) ∈ wa_all := wa_in10 (List.mem_of_getElem? (i := 29) rfl)
theorem wm_430 : (.code y_M_collect prog_3_method_17_code 1 (some .int) : Cond) ∈ wa_all := wa_in10 (List.mem_of_getElem? (i := 30) rfl)
theorem wm_431 : (.methodLink R_L 51 y_M_root : Cond) ∈ wa_all := wa_in10 (List.mem_of_getElem? (i := 31) rfl)
theorem wm_432 : (.instanceMethod y_M_root : Cond) ∈ wa_all := wa_in10 (List.mem_of_getElem? (i := 32) rfl)
theorem wm_433 : (.selects R_M y_M_root y_M_root : Cond) ∈ wa_all := wa_in10 (List.mem_of_getElem? (i := 33) rfl)
theorem wm_434 : (.code y_M_root prog_3_method_18_code 3 none : Cond) ∈ wa_all := wa_in10 (List.mem_of_getElem? (i := 34) rfl)
theorem wm_435 : (.methodLink R_L 55 y_M_rooted : Cond) ∈ wa_all := wa_in10 (List.mem_of_getElem? (i := 35) rfl)
theorem wm_436 : (.instanceMethod y_M_rooted : Cond) ∈ wa_all := wa_in10 (List.mem_of_getElem? (i := 36) rfl)
theorem wm_437 : (.selects R_M y_M_rooted y_M_rooted : Cond) ∈ wa_all := wa_in10 (List.mem_of_getElem? (i := 37) rfl)
theorem wm_438 : (.code y_M_rooted prog_3_method_19_code 2 (some .int) : Cond) ∈ wa_all := wa_in10 (List.mem_of_getElem? (i := 38) rfl)
theorem wm_439 : (.methodLink R_L 58 y_M_read : Cond) ∈ wa_all := wa_in10 (List.mem_of_getElem? (i := 39) rfl)
theorem wm_440 : (.instanceMethod y_M_read : Cond) ∈ wa_all := wa_in11 (List.mem_of_getElem? (i := 0) rfl)
theorem wm_441 : (.selects R_M y_M_read y_M_read : Cond) ∈ wa_all := wa_in11 (List.mem_of_getElem? (i := 1) rfl)
theorem wm_442 : (.code y_M_read prog_3_method_21_code 2 (some .int) : Cond) ∈ wa_all := wa_in11 (List.mem_of_getElem? (i := 2) rfl)
theorem wm_443 : (.methodLink R_M 91 y_M_bar : Cond) ∈ wa_all := wa_in11 (List.mem_of_getElem? (i := 3) rfl)
theorem wm_444 : (.instanceMethod y_M_bar : Cond) ∈ wa_all := wa_in11 (List.mem_of_getElem? (i := 4) rfl)
theorem wm_445 : (.code y_M_bar prog_3_method_20_code 2 (some .int) : Cond) ∈ wa_all := wa_in11 (List.mem_of_getElem? (i := 5) rfl)
theorem wm_446 : (.methodLink R_L 62 y_M_write : Cond) ∈ wa_all := wa_in11 (List.mem_of_getElem? (i := 6) rfl)
theorem wm_447 : (.instanceMethod y_M_write : Cond) ∈ wa_all := wa_in11 (List.mem_of_getElem? (i := 7) rfl)
theorem wm_448 : (.selects R_M y_M_write y_M_write : Cond) ∈ wa_all := wa_in11 (List.mem_of_getElem? (i := 8) rfl)
theorem wm_449 : (.code y_M_write prog_3_method_22_code 4 (some .int) : Cond) ∈ wa_all := wa_in11 (List.mem_of_getElem? (i := 9) rfl)
theorem wm_450 : (.methodLink R_L 70 y_M_base : Cond) ∈ wa_all := wa_in11 (List.mem_of_getElem? (i := 10) rfl)
theorem wm_451 : (.instanceMethod y_M_base : Cond) ∈ wa_all := wa_in11 (List.mem_of_getElem? (i := 11) rfl)
theorem wm_452 : (.selects R_M y_M_base y_M_base : Cond) ∈ wa_all := wa_in11 (List.mem_of_getElem? (i := 12) rfl)
theorem wm_453 : (.code y_M_base prog_3_method_23_code 3 (some .int) : Cond) ∈ wa_all := wa_in11 (List.mem_of_getElem? (i := 13) rfl)
theorem wm_454 : (.methodLink R_L 74 y_M_size : Cond) ∈ wa_all := wa_in11 (List.mem_of_getElem? (i := 14) rfl)
theorem wm_455 : (.instanceMethod y_M_size : Cond) ∈ wa_all := wa_in11 (List.mem_of_getElem? (i := 15) rfl)
theorem wm_456 : (.selects R_M y_M_size y_M_size : Cond) ∈ wa_all := wa_in11 (List.mem_of_getElem? (i := 16) rfl)
theorem wm_457 : (.code y_M_size prog_3_method_24_code 3 (some .int) : Cond) ∈ wa_all := wa_in11 (List.mem_of_getElem? (i := 17) rfl)
theorem wm_458 : (.methodLink R_L 79 y_M_silent : Cond) ∈ wa_all := wa_in11 (List.mem_of_getElem? (i := 18) rfl)
theorem wm_459 : (.instanceMethod y_M_silent : Cond) ∈ wa_all := wa_in11 (List.mem_of_getElem? (i := 19) rfl)
theorem wm_460 : (.selects R_M y_M_silent y_M_silent : Cond) ∈ wa_all := wa_in11 (List.mem_of_getElem? (i := 20) rfl)
theorem wm_461 : (.code y_M_silent prog_3_method_25_code 3 (some .boolean) : Cond) ∈ wa_all := wa_in11 (List.mem_of_getElem? (i := 21) rfl)
theorem wm_462 : (.methodLink R_L 83 y_M_block : Cond) ∈ wa_all := wa_in11 (List.mem_of_getElem? (i := 22) rfl)
theorem wm_463 : (.instanceMethod y_M_block : Cond) ∈ wa_all := wa_in11 (List.mem_of_getElem? (i := 23) rfl)
theorem wm_464 : (.selects R_M y_M_block y_M_block : Cond) ∈ wa_all := wa_in11 (List.mem_of_getElem? (i := 24) rfl)
theorem wm_465 : (.code y_M_block prog_3_method_26_code 2 (some .int) : Cond) ∈ wa_all := wa_in11 (List.mem_of_getElem? (i := 25) rfl)
theorem wm_466 : (.methodLink R_L 87 y_M_empty : Cond) ∈ wa_all := wa_in11 (List.mem_of_getElem? (i := 26) rfl)
theorem wm_467 : (.instanceMethod y_M_empty : Cond) ∈ wa_all := wa_in11 (List.mem_of_getElem? (i := 27) rfl)
theorem wm_468 : (.selects R_M y_M_empty y_M_empty : Cond) ∈ wa_all := wa_in11 (List.mem_of_getElem? (i := 28) rfl)
theorem wm_469 : (.code y_M_empty prog_3_method_27_code 4 (some .int) : Cond) ∈ wa_all := wa_in11 (List.mem_of_getElem? (i := 29) rfl)
theorem wm_470 : (.methodLink R_L 91 y_M_objects : Cond) ∈ wa_all := wa_in11 (List.mem_of_getElem? (i := 30) rfl)
theorem wm_471 : (.instanceMethod y_M_objects : Cond) ∈ wa_all := wa_in11 (List.mem_of_getElem? (i := 31) rfl)
theorem wm_472 : (.selects R_M y_M_objects y_M_objects : Cond) ∈ wa_all := wa_in11 (List.mem_of_getElem? (i := 32) rfl)
theorem wm_473 : (.code y_M_objects prog_3_method_28_code 3 (some .int) : Cond) ∈ wa_all := wa_in11 (List.mem_of_getElem? (i := 33) rfl)
theorem wm_474 : (.methodLink R_L 95 y_M_collections : Cond) ∈ wa_all := wa_in11 (List.mem_of_getElem? (i := 34) rfl)
theorem wm_475 : (.instanceMethod y_M_collections : Cond) ∈ wa_all := wa_in11 (List.mem_of_getElem? (i := 35) rfl)
theorem wm_476 : (.selects R_M y_M_collections y_M_collections : Cond) ∈ wa_all := wa_in11 (List.mem_of_getElem? (i := 36) rfl)
theorem wm_477 : (.code y_M_collections prog_3_method_29_code 1 (some .int) : Cond) ∈ wa_all := wa_in11 (List.mem_of_getElem? (i := 37) rfl)
theorem wm_478 : (.arrayClass .long : Cond) ∈ wa_all := wa_in11 (List.mem_of_getElem? (i := 38) rfl)
theorem wm_479 : (.sameMethod "java/lang/Throwable" "java/lang/Throwable" "fillInStackTrace" "(I)Ljava/lang/Throwable;" : Cond) ∈ wa_all := wa_in11 (List.mem_of_getElem? (i := 39) rfl)
end
section
/-! the instructions, by a program -/
theorem d_G_init_0 : decode b_G_init 0 = .ok (.aload_n 0, 1) := by decide +kernel
theorem d_G_init_1 : decode b_G_init 1 = .ok (.invokespecial 3, 3) := by decide +kernel
theorem d_G_init_4 : decode b_G_init 4 = .ok (.aload_n 0, 1) := by decide +kernel
theorem d_G_init_5 : decode b_G_init 5 = .ok (.bipush 8, 2) := by decide +kernel
theorem d_G_init_7 : decode b_G_init 7 = .ok (.newarray .int, 2) := by decide +kernel
theorem d_G_init_9 : decode b_G_init 9 = .ok (.putfield 9, 3) := by decide +kernel
theorem d_G_init_12 : decode b_G_init 12 = .ok (.aload_n 0, 1) := by decide +kernel
theorem d_G_init_13 : decode b_G_init 13 = .ok (.bipush 16, 2) := by decide +kernel
theorem d_G_init_15 : decode b_G_init 15 = .ok (.newarray .int, 2) := by decide +kernel
theorem d_G_init_17 : decode b_G_init 17 = .ok (.putfield 13, 3) := by decide +kernel
theorem d_G_init_20 : decode b_G_init 20 = .ok (.aload_n 0, 1) := by decide +kernel
theorem d_G_init_21 : decode b_G_init 21 = .ok (.bipush 16, 2) := by decide +kernel
theorem d_G_init_23 : decode b_G_init 23 = .ok (.newarray .boolean, 2) := by decide +kernel
theorem d_G_init_25 : decode b_G_init 25 = .ok (.putfield 16, 3) := by decide +kernel
theorem d_G_init_28 : decode b_G_init 28 = .ok (.aload_n 0, 1) := by decide +kernel
theorem d_G_init_29 : decode b_G_init 29 = .ok (.sipush 512, 3) := by decide +kernel
theorem d_G_init_32 : decode b_G_init 32 = .ok (.newarray .int, 2) := by decide +kernel
theorem d_G_init_34 : decode b_G_init 34 = .ok (.putfield 20, 3) := by decide +kernel
theorem d_G_init_37 : decode b_G_init 37 = .ok (.aload_n 0, 1) := by decide +kernel
theorem d_G_init_38 : decode b_G_init 38 = .ok (.sipush 512, 3) := by decide +kernel
theorem d_G_init_41 : decode b_G_init 41 = .ok (.newarray .int, 2) := by decide +kernel
theorem d_G_init_43 : decode b_G_init 43 = .ok (.putfield 23, 3) := by decide +kernel
theorem d_G_init_46 : decode b_G_init 46 = .ok (.aload_n 0, 1) := by decide +kernel
theorem d_G_init_47 : decode b_G_init 47 = .ok (.sipush 512, 3) := by decide +kernel
theorem d_G_init_50 : decode b_G_init 50 = .ok (.newarray .int, 2) := by decide +kernel
theorem d_G_init_52 : decode b_G_init 52 = .ok (.putfield 26, 3) := by decide +kernel
theorem d_G_init_55 : decode b_G_init 55 = .ok (.aload_n 0, 1) := by decide +kernel
theorem d_G_init_56 : decode b_G_init 56 = .ok (.sipush 512, 3) := by decide +kernel
theorem d_G_init_59 : decode b_G_init 59 = .ok (.newarray .boolean, 2) := by decide +kernel
theorem d_G_init_61 : decode b_G_init 61 = .ok (.putfield 29, 3) := by decide +kernel
theorem d_G_init_64 : decode b_G_init 64 = .ok (.aload_n 0, 1) := by decide +kernel
theorem d_G_init_65 : decode b_G_init 65 = .ok (.sipush 512, 3) := by decide +kernel
theorem d_G_init_68 : decode b_G_init 68 = .ok (.newarray .boolean, 2) := by decide +kernel
theorem d_G_init_70 : decode b_G_init 70 = .ok (.putfield 32, 3) := by decide +kernel
theorem d_G_init_73 : decode b_G_init 73 = .ok (.aload_n 0, 1) := by decide +kernel
theorem d_G_init_74 : decode b_G_init 74 = .ok (.sipush 256, 3) := by decide +kernel
theorem d_G_init_77 : decode b_G_init 77 = .ok (.newarray .int, 2) := by decide +kernel
theorem d_G_init_79 : decode b_G_init 79 = .ok (.putfield 35, 3) := by decide +kernel
theorem d_G_init_82 : decode b_G_init 82 = .ok (.aload_n 0, 1) := by decide +kernel
theorem d_G_init_83 : decode b_G_init 83 = .ok (.iconst 0, 1) := by decide +kernel
theorem d_G_init_84 : decode b_G_init 84 = .ok (.putfield 38, 3) := by decide +kernel
theorem d_G_init_87 : decode b_G_init 87 = .ok (.aload_n 0, 1) := by decide +kernel
theorem d_G_init_88 : decode b_G_init 88 = .ok (.iconst 0, 1) := by decide +kernel
theorem d_G_init_89 : decode b_G_init 89 = .ok (.putfield 42, 3) := by decide +kernel
theorem d_G_init_92 : decode b_G_init 92 = .ok (.aload_n 0, 1) := by decide +kernel
theorem d_G_init_93 : decode b_G_init 93 = .ok (.iconst 0, 1) := by decide +kernel
theorem d_G_init_94 : decode b_G_init 94 = .ok (.putfield 45, 3) := by decide +kernel
theorem d_G_init_97 : decode b_G_init 97 = .ok (.aload_n 0, 1) := by decide +kernel
theorem d_G_init_98 : decode b_G_init 98 = .ok (.getfield 23, 3) := by decide +kernel
theorem d_G_init_101 : decode b_G_init 101 = .ok (.iconst (-1), 1) := by decide +kernel
theorem d_G_init_102 : decode b_G_init 102 = .ok (.invokestatic 48, 3) := by decide +kernel
theorem d_G_init_105 : decode b_G_init 105 = .ok (.return_, 1) := by decide +kernel
theorem d_A_fill1_0 : decode b_A_fill1 0 = .ok (.iconst 0, 1) := by decide +kernel
theorem d_A_fill1_1 : decode b_A_fill1 1 = .ok (.istore_n 2, 1) := by decide +kernel
theorem d_A_fill1_2 : decode b_A_fill1 2 = .ok (.aload_n 0, 1) := by decide +kernel
theorem d_A_fill1_3 : decode b_A_fill1 3 = .ok (.arraylength, 1) := by decide +kernel
theorem d_A_fill1_4 : decode b_A_fill1 4 = .ok (.istore_n 3, 1) := by decide +kernel
theorem d_A_fill1_5 : decode b_A_fill1 5 = .ok (.iload_n 2, 1) := by decide +kernel
theorem d_A_fill1_6 : decode b_A_fill1 6 = .ok (.iload_n 3, 1) := by decide +kernel
theorem d_A_fill1_7 : decode b_A_fill1 7 = .ok (.if_icmp .ge 13, 3) := by decide +kernel
theorem d_A_fill1_10 : decode b_A_fill1 10 = .ok (.aload_n 0, 1) := by decide +kernel
theorem d_A_fill1_11 : decode b_A_fill1 11 = .ok (.iload_n 2, 1) := by decide +kernel
theorem d_A_fill1_12 : decode b_A_fill1 12 = .ok (.iload_n 1, 1) := by decide +kernel
theorem d_A_fill1_13 : decode b_A_fill1 13 = .ok (.iastore, 1) := by decide +kernel
theorem d_A_fill1_14 : decode b_A_fill1 14 = .ok (.iinc 2 1, 3) := by decide +kernel
theorem d_A_fill1_17 : decode b_A_fill1 17 = .ok (.goto (-12), 3) := by decide +kernel
theorem d_A_fill1_20 : decode b_A_fill1 20 = .ok (.return_, 1) := by decide +kernel
theorem d_G_collect_0 : decode b_G_collect 0 = .ok (.aload_n 0, 1) := by decide +kernel
theorem d_G_collect_1 : decode b_G_collect 1 = .ok (.invokevirtual 65, 3) := by decide +kernel
theorem d_G_collect_4 : decode b_G_collect 4 = .ok (.ireturn, 1) := by decide +kernel
theorem d_G_collectNow_0 : decode b_G_collectNow 0 = .ok (.aload_n 0, 1) := by decide +kernel
theorem d_G_collectNow_1 : decode b_G_collectNow 1 = .ok (.dup, 1) := by decide +kernel
theorem d_G_collectNow_2 : decode b_G_collectNow 2 = .ok (.getfield 45, 3) := by decide +kernel
theorem d_G_collectNow_5 : decode b_G_collectNow 5 = .ok (.iconst 1, 1) := by decide +kernel
theorem d_G_collectNow_6 : decode b_G_collectNow 6 = .ok (.iadd, 1) := by decide +kernel
theorem d_G_collectNow_7 : decode b_G_collectNow 7 = .ok (.putfield 45, 3) := by decide +kernel
theorem d_G_collectNow_10 : decode b_G_collectNow 10 = .ok (.aload_n 0, 1) := by decide +kernel
theorem d_G_collectNow_11 : decode b_G_collectNow 11 = .ok (.invokevirtual 136, 3) := by decide +kernel
theorem d_G_collectNow_14 : decode b_G_collectNow 14 = .ok (.aload_n 0, 1) := by decide +kernel
theorem d_G_collectNow_15 : decode b_G_collectNow 15 = .ok (.invokevirtual 139, 3) := by decide +kernel
theorem d_G_collectNow_18 : decode b_G_collectNow 18 = .ok (.aload_n 0, 1) := by decide +kernel
theorem d_G_collectNow_19 : decode b_G_collectNow 19 = .ok (.invokevirtual 142, 3) := by decide +kernel
theorem d_G_collectNow_22 : decode b_G_collectNow 22 = .ok (.aload_n 0, 1) := by decide +kernel
theorem d_G_collectNow_23 : decode b_G_collectNow 23 = .ok (.getfield 42, 3) := by decide +kernel
theorem d_G_collectNow_26 : decode b_G_collectNow 26 = .ok (.istore_n 1, 1) := by decide +kernel
theorem d_G_collectNow_27 : decode b_G_collectNow 27 = .ok (.aload_n 0, 1) := by decide +kernel
theorem d_G_collectNow_28 : decode b_G_collectNow 28 = .ok (.invokevirtual 145, 3) := by decide +kernel
theorem d_G_collectNow_31 : decode b_G_collectNow 31 = .ok (.aload_n 0, 1) := by decide +kernel
theorem d_G_collectNow_32 : decode b_G_collectNow 32 = .ok (.invokevirtual 148, 3) := by decide +kernel
theorem d_G_collectNow_35 : decode b_G_collectNow 35 = .ok (.iload_n 1, 1) := by decide +kernel
theorem d_G_collectNow_36 : decode b_G_collectNow 36 = .ok (.aload_n 0, 1) := by decide +kernel
theorem d_G_collectNow_37 : decode b_G_collectNow 37 = .ok (.getfield 42, 3) := by decide +kernel
theorem d_G_collectNow_40 : decode b_G_collectNow 40 = .ok (.isub, 1) := by decide +kernel
theorem d_G_collectNow_41 : decode b_G_collectNow 41 = .ok (.ireturn, 1) := by decide +kernel
theorem d_G_forgetMarks_0 : decode b_G_forgetMarks 0 = .ok (.iconst 0, 1) := by decide +kernel
theorem d_G_forgetMarks_1 : decode b_G_forgetMarks 1 = .ok (.istore_n 1, 1) := by decide +kernel
theorem d_G_forgetMarks_2 : decode b_G_forgetMarks 2 = .ok (.iload_n 1, 1) := by decide +kernel
theorem d_G_forgetMarks_3 : decode b_G_forgetMarks 3 = .ok (.bipush 16, 2) := by decide +kernel
theorem d_G_forgetMarks_5 : decode b_G_forgetMarks 5 = .ok (.if_icmp .ge 16, 3) := by decide +kernel
theorem d_G_forgetMarks_8 : decode b_G_forgetMarks 8 = .ok (.aload_n 0, 1) := by decide +kernel
theorem d_G_forgetMarks_9 : decode b_G_forgetMarks 9 = .ok (.getfield 16, 3) := by decide +kernel
theorem d_G_forgetMarks_12 : decode b_G_forgetMarks 12 = .ok (.iload_n 1, 1) := by decide +kernel
theorem d_G_forgetMarks_13 : decode b_G_forgetMarks 13 = .ok (.iconst 0, 1) := by decide +kernel
theorem d_G_forgetMarks_14 : decode b_G_forgetMarks 14 = .ok (.bastore, 1) := by decide +kernel
theorem d_G_forgetMarks_15 : decode b_G_forgetMarks 15 = .ok (.iinc 1 1, 3) := by decide +kernel
theorem d_G_forgetMarks_18 : decode b_G_forgetMarks 18 = .ok (.goto (-16), 3) := by decide +kernel
theorem d_G_forgetMarks_21 : decode b_G_forgetMarks 21 = .ok (.iconst 0, 1) := by decide +kernel
theorem d_G_forgetMarks_22 : decode b_G_forgetMarks 22 = .ok (.istore_n 1, 1) := by decide +kernel
theorem d_G_forgetMarks_23 : decode b_G_forgetMarks 23 = .ok (.iload_n 1, 1) := by decide +kernel
theorem d_G_forgetMarks_24 : decode b_G_forgetMarks 24 = .ok (.sipush 512, 3) := by decide +kernel
theorem d_G_forgetMarks_27 : decode b_G_forgetMarks 27 = .ok (.if_icmp .ge 16, 3) := by decide +kernel
theorem d_G_forgetMarks_30 : decode b_G_forgetMarks 30 = .ok (.aload_n 0, 1) := by decide +kernel
theorem d_G_forgetMarks_31 : decode b_G_forgetMarks 31 = .ok (.getfield 32, 3) := by decide +kernel
theorem d_G_forgetMarks_34 : decode b_G_forgetMarks 34 = .ok (.iload_n 1, 1) := by decide +kernel
theorem d_G_forgetMarks_35 : decode b_G_forgetMarks 35 = .ok (.iconst 0, 1) := by decide +kernel
theorem d_G_forgetMarks_36 : decode b_G_forgetMarks 36 = .ok (.bastore, 1) := by decide +kernel
theorem d_G_forgetMarks_37 : decode b_G_forgetMarks 37 = .ok (.iinc 1 1, 3) := by decide +kernel
theorem d_G_forgetMarks_40 : decode b_G_forgetMarks 40 = .ok (.goto (-17), 3) := by decide +kernel
theorem d_G_forgetMarks_43 : decode b_G_forgetMarks 43 = .ok (.aload_n 0, 1) := by decide +kernel
theorem d_G_forgetMarks_44 : decode b_G_forgetMarks 44 = .ok (.iconst 0, 1) := by decide +kernel
theorem d_G_forgetMarks_45 : decode b_G_forgetMarks 45 = .ok (.putfield 38, 3) := by decide +kernel
theorem d_G_forgetMarks_48 : decode b_G_forgetMarks 48 = .ok (.return_, 1) := by decide +kernel
theorem d_G_lookAtRoots_0 : decode b_G_lookAtRoots 0 = .ok (.iconst 0, 1) := by decide +kernel
theorem d_G_lookAtRoots_1 : decode b_G_lookAtRoots 1 = .ok (.istore_n 1, 1) := by decide +kernel
theorem d_G_lookAtRoots_2 : decode b_G_lookAtRoots 2 = .ok (.iload_n 1, 1) := by decide +kernel
theorem d_G_lookAtRoots_3 : decode b_G_lookAtRoots 3 = .ok (.bipush 8, 2) := by decide +kernel
theorem d_G_lookAtRoots_5 : decode b_G_lookAtRoots 5 = .ok (.if_icmp .ge 19, 3) := by decide +kernel
theorem d_G_lookAtRoots_8 : decode b_G_lookAtRoots 8 = .ok (.aload_n 0, 1) := by decide +kernel
theorem d_G_lookAtRoots_9 : decode b_G_lookAtRoots 9 = .ok (.aload_n 0, 1) := by decide +kernel
theorem d_G_lookAtRoots_10 : decode b_G_lookAtRoots 10 = .ok (.getfield 9, 3) := by decide +kernel
theorem d_G_lookAtRoots_13 : decode b_G_lookAtRoots 13 = .ok (.iload_n 1, 1) := by decide +kernel
theorem d_G_lookAtRoots_14 : decode b_G_lookAtRoots 14 = .ok (.iaload, 1) := by decide +kernel
theorem d_G_lookAtRoots_15 : decode b_G_lookAtRoots 15 = .ok (.invokevirtual 151, 3) := by decide +kernel
theorem d_G_lookAtRoots_18 : decode b_G_lookAtRoots 18 = .ok (.iinc 1 1, 3) := by decide +kernel
theorem d_G_lookAtRoots_21 : decode b_G_lookAtRoots 21 = .ok (.goto (-19), 3) := by decide +kernel
theorem d_G_lookAtRoots_24 : decode b_G_lookAtRoots 24 = .ok (.return_, 1) := by decide +kernel
theorem d_G_lookAt_0 : decode b_G_lookAt 0 = .ok (.iload_n 1, 1) := by decide +kernel
theorem d_G_lookAt_1 : decode b_G_lookAt 1 = .ok (.invokestatic 113, 3) := by decide +kernel
theorem d_G_lookAt_4 : decode b_G_lookAt 4 = .ok (.ifCond .ne 4, 3) := by decide +kernel
theorem d_G_lookAt_7 : decode b_G_lookAt 7 = .ok (.return_, 1) := by decide +kernel
theorem d_G_lookAt_8 : decode b_G_lookAt 8 = .ok (.aload_n 0, 1) := by decide +kernel
theorem d_G_lookAt_9 : decode b_G_lookAt 9 = .ok (.iload_n 1, 1) := by decide +kernel
theorem d_G_lookAt_10 : decode b_G_lookAt 10 = .ok (.invokevirtual 95, 3) := by decide +kernel
theorem d_G_lookAt_13 : decode b_G_lookAt 13 = .ok (.istore_n 2, 1) := by decide +kernel
theorem d_G_lookAt_14 : decode b_G_lookAt 14 = .ok (.iload_n 1, 1) := by decide +kernel
theorem d_G_lookAt_15 : decode b_G_lookAt 15 = .ok (.sipush 4096, 3) := by decide +kernel
theorem d_G_lookAt_18 : decode b_G_lookAt 18 = .ok (.isub, 1) := by decide +kernel
theorem d_G_lookAt_19 : decode b_G_lookAt 19 = .ok (.bipush 32, 2) := by decide +kernel
theorem d_G_lookAt_21 : decode b_G_lookAt 21 = .ok (.idiv, 1) := by decide +kernel
theorem d_G_lookAt_22 : decode b_G_lookAt 22 = .ok (.istore_n 3, 1) := by decide +kernel
theorem d_G_lookAt_23 : decode b_G_lookAt 23 = .ok (.iload_n 2, 1) := by decide +kernel
theorem d_G_lookAt_24 : decode b_G_lookAt 24 = .ok (.iconst (-1), 1) := by decide +kernel
theorem d_G_lookAt_25 : decode b_G_lookAt 25 = .ok (.if_icmp .eq 11, 3) := by decide +kernel
theorem d_G_lookAt_28 : decode b_G_lookAt 28 = .ok (.aload_n 0, 1) := by decide +kernel
theorem d_G_lookAt_29 : decode b_G_lookAt 29 = .ok (.iload_n 2, 1) := by decide +kernel
theorem d_G_lookAt_30 : decode b_G_lookAt 30 = .ok (.invokevirtual 157, 3) := by decide +kernel
theorem d_G_lookAt_33 : decode b_G_lookAt 33 = .ok (.goto 19, 3) := by decide +kernel
theorem d_G_lookAt_36 : decode b_G_lookAt 36 = .ok (.aload_n 0, 1) := by decide +kernel
theorem d_G_lookAt_37 : decode b_G_lookAt 37 = .ok (.getfield 13, 3) := by decide +kernel
theorem d_G_lookAt_40 : decode b_G_lookAt 40 = .ok (.iload_n 3, 1) := by decide +kernel
theorem d_G_lookAt_41 : decode b_G_lookAt 41 = .ok (.iaload, 1) := by decide +kernel
theorem d_G_lookAt_42 : decode b_G_lookAt 42 = .ok (.ifCond .ne 10, 3) := by decide +kernel
theorem d_G_lookAt_45 : decode b_G_lookAt 45 = .ok (.aload_n 0, 1) := by decide +kernel
theorem d_G_lookAt_46 : decode b_G_lookAt 46 = .ok (.getfield 16, 3) := by decide +kernel
theorem d_G_lookAt_49 : decode b_G_lookAt 49 = .ok (.iload_n 3, 1) := by decide +kernel
theorem d_G_lookAt_50 : decode b_G_lookAt 50 = .ok (.iconst 1, 1) := by decide +kernel
theorem d_G_lookAt_51 : decode b_G_lookAt 51 = .ok (.bastore, 1) := by decide +kernel
theorem d_G_lookAt_52 : decode b_G_lookAt 52 = .ok (.return_, 1) := by decide +kernel
theorem d_G_isAddress_0 : decode b_G_isAddress 0 = .ok (.iload_n 0, 1) := by decide +kernel
theorem d_G_isAddress_1 : decode b_G_isAddress 1 = .ok (.sipush 4096, 3) := by decide +kernel
theorem d_G_isAddress_4 : decode b_G_isAddress 4 = .ok (.if_icmp .lt 14, 3) := by decide +kernel
theorem d_G_isAddress_7 : decode b_G_isAddress 7 = .ok (.iload_n 0, 1) := by decide +kernel
theorem d_G_isAddress_8 : decode b_G_isAddress 8 = .ok (.sipush 4608, 3) := by decide +kernel
theorem d_G_isAddress_11 : decode b_G_isAddress 11 = .ok (.if_icmp .ge 7, 3) := by decide +kernel
theorem d_G_isAddress_14 : decode b_G_isAddress 14 = .ok (.iconst 1, 1) := by decide +kernel
theorem d_G_isAddress_15 : decode b_G_isAddress 15 = .ok (.goto 4, 3) := by decide +kernel
theorem d_G_isAddress_18 : decode b_G_isAddress 18 = .ok (.iconst 0, 1) := by decide +kernel
theorem d_G_isAddress_19 : decode b_G_isAddress 19 = .ok (.ireturn, 1) := by decide +kernel
theorem d_G_startAt_0 : decode b_G_startAt 0 = .ok (.iload_n 1, 1) := by decide +kernel
theorem d_G_startAt_1 : decode b_G_startAt 1 = .ok (.invokestatic 113, 3) := by decide +kernel
theorem d_G_startAt_4 : decode b_G_startAt 4 = .ok (.ifCond .eq 16, 3) := by decide +kernel
theorem d_G_startAt_7 : decode b_G_startAt 7 = .ok (.aload_n 0, 1) := by decide +kernel
theorem d_G_startAt_8 : decode b_G_startAt 8 = .ok (.getfield 23, 3) := by decide +kernel
theorem d_G_startAt_11 : decode b_G_startAt 11 = .ok (.iload_n 1, 1) := by decide +kernel
theorem d_G_startAt_12 : decode b_G_startAt 12 = .ok (.sipush 4096, 3) := by decide +kernel
theorem d_G_startAt_15 : decode b_G_startAt 15 = .ok (.isub, 1) := by decide +kernel
theorem d_G_startAt_16 : decode b_G_startAt 16 = .ok (.iaload, 1) := by decide +kernel
theorem d_G_startAt_17 : decode b_G_startAt 17 = .ok (.goto 4, 3) := by decide +kernel
theorem d_G_startAt_20 : decode b_G_startAt 20 = .ok (.iconst (-1), 1) := by decide +kernel
theorem d_G_startAt_21 : decode b_G_startAt 21 = .ok (.ireturn, 1) := by decide +kernel
theorem d_G_mark_0 : decode b_G_mark 0 = .ok (.aload_n 0, 1) := by decide +kernel
theorem d_G_mark_1 : decode b_G_mark 1 = .ok (.getfield 32, 3) := by decide +kernel
theorem d_G_mark_4 : decode b_G_mark 4 = .ok (.iload_n 1, 1) := by decide +kernel
theorem d_G_mark_5 : decode b_G_mark 5 = .ok (.baload, 1) := by decide +kernel
theorem d_G_mark_6 : decode b_G_mark 6 = .ok (.ifCond .ne 40, 3) := by decide +kernel
theorem d_G_mark_9 : decode b_G_mark 9 = .ok (.aload_n 0, 1) := by decide +kernel
theorem d_G_mark_10 : decode b_G_mark 10 = .ok (.getfield 38, 3) := by decide +kernel
theorem d_G_mark_13 : decode b_G_mark 13 = .ok (.sipush 256, 3) := by decide +kernel
theorem d_G_mark_16 : decode b_G_mark 16 = .ok (.if_icmp .ge 30, 3) := by decide +kernel
theorem d_G_mark_19 : decode b_G_mark 19 = .ok (.aload_n 0, 1) := by decide +kernel
theorem d_G_mark_20 : decode b_G_mark 20 = .ok (.getfield 32, 3) := by decide +kernel
theorem d_G_mark_23 : decode b_G_mark 23 = .ok (.iload_n 1, 1) := by decide +kernel
theorem d_G_mark_24 : decode b_G_mark 24 = .ok (.iconst 1, 1) := by decide +kernel
theorem d_G_mark_25 : decode b_G_mark 25 = .ok (.bastore, 1) := by decide +kernel
theorem d_G_mark_26 : decode b_G_mark 26 = .ok (.aload_n 0, 1) := by decide +kernel
theorem d_G_mark_27 : decode b_G_mark 27 = .ok (.getfield 35, 3) := by decide +kernel
theorem d_G_mark_30 : decode b_G_mark 30 = .ok (.aload_n 0, 1) := by decide +kernel
theorem d_G_mark_31 : decode b_G_mark 31 = .ok (.getfield 38, 3) := by decide +kernel
theorem d_G_mark_34 : decode b_G_mark 34 = .ok (.iload_n 1, 1) := by decide +kernel
theorem d_G_mark_35 : decode b_G_mark 35 = .ok (.iastore, 1) := by decide +kernel
theorem d_G_mark_36 : decode b_G_mark 36 = .ok (.aload_n 0, 1) := by decide +kernel
theorem d_G_mark_37 : decode b_G_mark 37 = .ok (.dup, 1) := by decide +kernel
theorem d_G_mark_38 : decode b_G_mark 38 = .ok (.getfield 38, 3) := by decide +kernel
theorem d_G_mark_41 : decode b_G_mark 41 = .ok (.iconst 1, 1) := by decide +kernel
theorem d_G_mark_42 : decode b_G_mark 42 = .ok (.iadd, 1) := by decide +kernel
theorem d_G_mark_43 : decode b_G_mark 43 = .ok (.putfield 38, 3) := by decide +kernel
theorem d_G_mark_46 : decode b_G_mark 46 = .ok (.return_, 1) := by decide +kernel
theorem d_G_lookAtMarkedObjects_0 : decode b_G_lookAtMarkedObjects 0 = .ok (.iconst 0, 1) := by decide +kernel
theorem d_G_lookAtMarkedObjects_1 : decode b_G_lookAtMarkedObjects 1 = .ok (.istore_n 1, 1) := by decide +kernel
theorem d_G_lookAtMarkedObjects_2 : decode b_G_lookAtMarkedObjects 2 = .ok (.iload_n 1, 1) := by decide +kernel
theorem d_G_lookAtMarkedObjects_3 : decode b_G_lookAtMarkedObjects 3 = .ok (.sipush 256, 3) := by decide +kernel
theorem d_G_lookAtMarkedObjects_6 : decode b_G_lookAtMarkedObjects 6 = .ok (.if_icmp .ge 44, 3) := by decide +kernel
theorem d_G_lookAtMarkedObjects_9 : decode b_G_lookAtMarkedObjects 9 = .ok (.iload_n 1, 1) := by decide +kernel
theorem d_G_lookAtMarkedObjects_10 : decode b_G_lookAtMarkedObjects 10 = .ok (.aload_n 0, 1) := by decide +kernel
theorem d_G_lookAtMarkedObjects_11 : decode b_G_lookAtMarkedObjects 11 = .ok (.getfield 38, 3) := by decide +kernel
theorem d_G_lookAtMarkedObjects_14 : decode b_G_lookAtMarkedObjects 14 = .ok (.if_icmp .ge 36, 3) := by decide +kernel
theorem d_G_lookAtMarkedObjects_17 : decode b_G_lookAtMarkedObjects 17 = .ok (.aload_n 0, 1) := by decide +kernel
theorem d_G_lookAtMarkedObjects_18 : decode b_G_lookAtMarkedObjects 18 = .ok (.getfield 35, 3) := by decide +kernel
theorem d_G_lookAtMarkedObjects_21 : decode b_G_lookAtMarkedObjects 21 = .ok (.iload_n 1, 1) := by decide +kernel
theorem d_G_lookAtMarkedObjects_22 : decode b_G_lookAtMarkedObjects 22 = .ok (.iaload, 1) := by decide +kernel
theorem d_G_lookAtMarkedObjects_23 : decode b_G_lookAtMarkedObjects 23 = .ok (.istore_n 2, 1) := by decide +kernel
theorem d_G_lookAtMarkedObjects_24 : decode b_G_lookAtMarkedObjects 24 = .ok (.aload_n 0, 1) := by decide +kernel
theorem d_G_lookAtMarkedObjects_25 : decode b_G_lookAtMarkedObjects 25 = .ok (.getfield 29, 3) := by decide +kernel
theorem d_G_lookAtMarkedObjects_28 : decode b_G_lookAtMarkedObjects 28 = .ok (.iload_n 2, 1) := by decide +kernel
theorem d_G_lookAtMarkedObjects_29 : decode b_G_lookAtMarkedObjects 29 = .ok (.baload, 1) := by decide +kernel
theorem d_G_lookAtMarkedObjects_30 : decode b_G_lookAtMarkedObjects 30 = .ok (.ifCond .ne 14, 3) := by decide +kernel
theorem d_G_lookAtMarkedObjects_33 : decode b_G_lookAtMarkedObjects 33 = .ok (.aload_n 0, 1) := by decide +kernel
theorem d_G_lookAtMarkedObjects_34 : decode b_G_lookAtMarkedObjects 34 = .ok (.iload_n 2, 1) := by decide +kernel
theorem d_G_lookAtMarkedObjects_35 : decode b_G_lookAtMarkedObjects 35 = .ok (.aload_n 0, 1) := by decide +kernel
theorem d_G_lookAtMarkedObjects_36 : decode b_G_lookAtMarkedObjects 36 = .ok (.getfield 26, 3) := by decide +kernel
theorem d_G_lookAtMarkedObjects_39 : decode b_G_lookAtMarkedObjects 39 = .ok (.iload_n 2, 1) := by decide +kernel
theorem d_G_lookAtMarkedObjects_40 : decode b_G_lookAtMarkedObjects 40 = .ok (.iaload, 1) := by decide +kernel
theorem d_G_lookAtMarkedObjects_41 : decode b_G_lookAtMarkedObjects 41 = .ok (.invokevirtual 154, 3) := by decide +kernel
theorem d_G_lookAtMarkedObjects_44 : decode b_G_lookAtMarkedObjects 44 = .ok (.iinc 1 1, 3) := by decide +kernel
theorem d_G_lookAtMarkedObjects_47 : decode b_G_lookAtMarkedObjects 47 = .ok (.goto (-45), 3) := by decide +kernel
theorem d_G_lookAtMarkedObjects_50 : decode b_G_lookAtMarkedObjects 50 = .ok (.return_, 1) := by decide +kernel
theorem d_G_lookAtWords_0 : decode b_G_lookAtWords 0 = .ok (.iconst 0, 1) := by decide +kernel
theorem d_G_lookAtWords_1 : decode b_G_lookAtWords 1 = .ok (.istore_n 3, 1) := by decide +kernel
theorem d_G_lookAtWords_2 : decode b_G_lookAtWords 2 = .ok (.iload_n 3, 1) := by decide +kernel
theorem d_G_lookAtWords_3 : decode b_G_lookAtWords 3 = .ok (.iload_n 2, 1) := by decide +kernel
theorem d_G_lookAtWords_4 : decode b_G_lookAtWords 4 = .ok (.if_icmp .ge 21, 3) := by decide +kernel
theorem d_G_lookAtWords_7 : decode b_G_lookAtWords 7 = .ok (.aload_n 0, 1) := by decide +kernel
theorem d_G_lookAtWords_8 : decode b_G_lookAtWords 8 = .ok (.aload_n 0, 1) := by decide +kernel
theorem d_G_lookAtWords_9 : decode b_G_lookAtWords 9 = .ok (.getfield 20, 3) := by decide +kernel
theorem d_G_lookAtWords_12 : decode b_G_lookAtWords 12 = .ok (.iload_n 1, 1) := by decide +kernel
theorem d_G_lookAtWords_13 : decode b_G_lookAtWords 13 = .ok (.iload_n 3, 1) := by decide +kernel
theorem d_G_lookAtWords_14 : decode b_G_lookAtWords 14 = .ok (.iadd, 1) := by decide +kernel
theorem d_G_lookAtWords_15 : decode b_G_lookAtWords 15 = .ok (.iaload, 1) := by decide +kernel
theorem d_G_lookAtWords_16 : decode b_G_lookAtWords 16 = .ok (.invokevirtual 151, 3) := by decide +kernel
theorem d_G_lookAtWords_19 : decode b_G_lookAtWords 19 = .ok (.iinc 3 1, 3) := by decide +kernel
theorem d_G_lookAtWords_22 : decode b_G_lookAtWords 22 = .ok (.goto (-20), 3) := by decide +kernel
theorem d_G_lookAtWords_25 : decode b_G_lookAtWords 25 = .ok (.return_, 1) := by decide +kernel
theorem d_G_giveUpUnmarkedObjects_0 : decode b_G_giveUpUnmarkedObjects 0 = .ok (.iconst 0, 1) := by decide +kernel
theorem d_G_giveUpUnmarkedObjects_1 : decode b_G_giveUpUnmarkedObjects 1 = .ok (.istore_n 1, 1) := by decide +kernel
theorem d_G_giveUpUnmarkedObjects_2 : decode b_G_giveUpUnmarkedObjects 2 = .ok (.iload_n 1, 1) := by decide +kernel
theorem d_G_giveUpUnmarkedObjects_3 : decode b_G_giveUpUnmarkedObjects 3 = .ok (.sipush 512, 3) := by decide +kernel
theorem d_G_giveUpUnmarkedObjects_6 : decode b_G_giveUpUnmarkedObjects 6 = .ok (.if_icmp .ge 39, 3) := by decide +kernel
theorem d_G_giveUpUnmarkedObjects_9 : decode b_G_giveUpUnmarkedObjects 9 = .ok (.aload_n 0, 1) := by decide +kernel
theorem d_G_giveUpUnmarkedObjects_10 : decode b_G_giveUpUnmarkedObjects 10 = .ok (.getfield 23, 3) := by decide +kernel
theorem d_G_giveUpUnmarkedObjects_13 : decode b_G_giveUpUnmarkedObjects 13 = .ok (.iload_n 1, 1) := by decide +kernel
theorem d_G_giveUpUnmarkedObjects_14 : decode b_G_giveUpUnmarkedObjects 14 = .ok (.iaload, 1) := by decide +kernel
theorem d_G_giveUpUnmarkedObjects_15 : decode b_G_giveUpUnmarkedObjects 15 = .ok (.iload_n 1, 1) := by decide +kernel
theorem d_G_giveUpUnmarkedObjects_16 : decode b_G_giveUpUnmarkedObjects 16 = .ok (.if_icmp .ne 23, 3) := by decide +kernel
theorem d_G_giveUpUnmarkedObjects_19 : decode b_G_giveUpUnmarkedObjects 19 = .ok (.aload_n 0, 1) := by decide +kernel
theorem d_G_giveUpUnmarkedObjects_20 : decode b_G_giveUpUnmarkedObjects 20 = .ok (.getfield 32, 3) := by decide +kernel
theorem d_G_giveUpUnmarkedObjects_23 : decode b_G_giveUpUnmarkedObjects 23 = .ok (.iload_n 1, 1) := by decide +kernel
theorem d_G_giveUpUnmarkedObjects_24 : decode b_G_giveUpUnmarkedObjects 24 = .ok (.baload, 1) := by decide +kernel
theorem d_G_giveUpUnmarkedObjects_25 : decode b_G_giveUpUnmarkedObjects 25 = .ok (.ifCond .ne 14, 3) := by decide +kernel
theorem d_G_giveUpUnmarkedObjects_28 : decode b_G_giveUpUnmarkedObjects 28 = .ok (.aload_n 0, 1) := by decide +kernel
theorem d_G_giveUpUnmarkedObjects_29 : decode b_G_giveUpUnmarkedObjects 29 = .ok (.iload_n 1, 1) := by decide +kernel
theorem d_G_giveUpUnmarkedObjects_30 : decode b_G_giveUpUnmarkedObjects 30 = .ok (.aload_n 0, 1) := by decide +kernel
theorem d_G_giveUpUnmarkedObjects_31 : decode b_G_giveUpUnmarkedObjects 31 = .ok (.getfield 26, 3) := by decide +kernel
theorem d_G_giveUpUnmarkedObjects_34 : decode b_G_giveUpUnmarkedObjects 34 = .ok (.iload_n 1, 1) := by decide +kernel
theorem d_G_giveUpUnmarkedObjects_35 : decode b_G_giveUpUnmarkedObjects 35 = .ok (.iaload, 1) := by decide +kernel
theorem d_G_giveUpUnmarkedObjects_36 : decode b_G_giveUpUnmarkedObjects 36 = .ok (.invokevirtual 160, 3) := by decide +kernel
theorem d_G_giveUpUnmarkedObjects_39 : decode b_G_giveUpUnmarkedObjects 39 = .ok (.iinc 1 1, 3) := by decide +kernel
theorem d_G_giveUpUnmarkedObjects_42 : decode b_G_giveUpUnmarkedObjects 42 = .ok (.goto (-40), 3) := by decide +kernel
theorem d_G_giveUpUnmarkedObjects_45 : decode b_G_giveUpUnmarkedObjects 45 = .ok (.return_, 1) := by decide +kernel
theorem d_G_giveUp_0 : decode b_G_giveUp 0 = .ok (.aload_n 0, 1) := by decide +kernel
theorem d_G_giveUp_1 : decode b_G_giveUp 1 = .ok (.getfield 20, 3) := by decide +kernel
theorem d_G_giveUp_4 : decode b_G_giveUp 4 = .ok (.iload_n 1, 1) := by decide +kernel
theorem d_G_giveUp_5 : decode b_G_giveUp 5 = .ok (.iload_n 1, 1) := by decide +kernel
theorem d_G_giveUp_6 : decode b_G_giveUp 6 = .ok (.iload_n 2, 1) := by decide +kernel
theorem d_G_giveUp_7 : decode b_G_giveUp 7 = .ok (.iadd, 1) := by decide +kernel
theorem d_G_giveUp_8 : decode b_G_giveUp 8 = .ok (.iconst 0, 1) := by decide +kernel
theorem d_G_giveUp_9 : decode b_G_giveUp 9 = .ok (.invokestatic 133, 3) := by decide +kernel
theorem d_G_giveUp_12 : decode b_G_giveUp 12 = .ok (.aload_n 0, 1) := by decide +kernel
theorem d_G_giveUp_13 : decode b_G_giveUp 13 = .ok (.getfield 23, 3) := by decide +kernel
theorem d_G_giveUp_16 : decode b_G_giveUp 16 = .ok (.iload_n 1, 1) := by decide +kernel
theorem d_G_giveUp_17 : decode b_G_giveUp 17 = .ok (.iload_n 1, 1) := by decide +kernel
theorem d_G_giveUp_18 : decode b_G_giveUp 18 = .ok (.iload_n 2, 1) := by decide +kernel
theorem d_G_giveUp_19 : decode b_G_giveUp 19 = .ok (.iadd, 1) := by decide +kernel
theorem d_G_giveUp_20 : decode b_G_giveUp 20 = .ok (.iconst (-1), 1) := by decide +kernel
theorem d_G_giveUp_21 : decode b_G_giveUp 21 = .ok (.invokestatic 133, 3) := by decide +kernel
theorem d_G_giveUp_24 : decode b_G_giveUp 24 = .ok (.aload_n 0, 1) := by decide +kernel
theorem d_G_giveUp_25 : decode b_G_giveUp 25 = .ok (.dup, 1) := by decide +kernel
theorem d_G_giveUp_26 : decode b_G_giveUp 26 = .ok (.getfield 42, 3) := by decide +kernel
theorem d_G_giveUp_29 : decode b_G_giveUp 29 = .ok (.iconst 1, 1) := by decide +kernel
theorem d_G_giveUp_30 : decode b_G_giveUp 30 = .ok (.isub, 1) := by decide +kernel
theorem d_G_giveUp_31 : decode b_G_giveUp 31 = .ok (.putfield 42, 3) := by decide +kernel
theorem d_G_giveUp_34 : decode b_G_giveUp 34 = .ok (.return_, 1) := by decide +kernel
theorem d_A_fill3_0 : decode b_A_fill3 0 = .ok (.aload_n 0, 1) := by decide +kernel
theorem d_A_fill3_1 : decode b_A_fill3 1 = .ok (.arraylength, 1) := by decide +kernel
theorem d_A_fill3_2 : decode b_A_fill3 2 = .ok (.iload_n 1, 1) := by decide +kernel
theorem d_A_fill3_3 : decode b_A_fill3 3 = .ok (.iload_n 2, 1) := by decide +kernel
theorem d_A_fill3_4 : decode b_A_fill3 4 = .ok (.invokestatic 13, 3) := by decide +kernel
theorem d_A_fill3_7 : decode b_A_fill3 7 = .ok (.iload_n 1, 1) := by decide +kernel
theorem d_A_fill3_8 : decode b_A_fill3 8 = .ok (.istore 4, 2) := by decide +kernel
theorem d_A_fill3_10 : decode b_A_fill3 10 = .ok (.iload 4, 2) := by decide +kernel
theorem d_A_fill3_12 : decode b_A_fill3 12 = .ok (.iload_n 2, 1) := by decide +kernel
theorem d_A_fill3_13 : decode b_A_fill3 13 = .ok (.if_icmp .ge 14, 3) := by decide +kernel
theorem d_A_fill3_16 : decode b_A_fill3 16 = .ok (.aload_n 0, 1) := by decide +kernel
theorem d_A_fill3_17 : decode b_A_fill3 17 = .ok (.iload 4, 2) := by decide +kernel
theorem d_A_fill3_19 : decode b_A_fill3 19 = .ok (.iload_n 3, 1) := by decide +kernel
theorem d_A_fill3_20 : decode b_A_fill3 20 = .ok (.iastore, 1) := by decide +kernel
theorem d_A_fill3_21 : decode b_A_fill3 21 = .ok (.iinc 4 1, 3) := by decide +kernel
theorem d_A_fill3_24 : decode b_A_fill3 24 = .ok (.goto (-14), 3) := by decide +kernel
theorem d_A_fill3_27 : decode b_A_fill3 27 = .ok (.return_, 1) := by decide +kernel
theorem d_A_rangeCheck_0 : decode b_A_rangeCheck 0 = .ok (.iload_n 1, 1) := by decide +kernel
theorem d_A_rangeCheck_1 : decode b_A_rangeCheck 1 = .ok (.iload_n 2, 1) := by decide +kernel
theorem d_A_rangeCheck_2 : decode b_A_rangeCheck 2 = .ok (.if_icmp .le 44, 3) := by decide +kernel
theorem d_A_rangeCheck_5 : decode b_A_rangeCheck 5 = .ok (.new 43, 3) := by decide +kernel
theorem d_A_rangeCheck_8 : decode b_A_rangeCheck 8 = .ok (.dup, 1) := by decide +kernel
theorem d_A_rangeCheck_9 : decode b_A_rangeCheck 9 = .ok (.new 45, 3) := by decide +kernel
theorem d_A_rangeCheck_12 : decode b_A_rangeCheck 12 = .ok (.dup, 1) := by decide +kernel
theorem d_A_rangeCheck_13 : decode b_A_rangeCheck 13 = .ok (.invokespecial 47, 3) := by decide +kernel
theorem d_A_rangeCheck_16 : decode b_A_rangeCheck 16 = .ok (.ldc 48, 2) := by decide +kernel
theorem d_A_rangeCheck_18 : decode b_A_rangeCheck 18 = .ok (.invokevirtual 50, 3) := by decide +kernel
theorem d_A_rangeCheck_21 : decode b_A_rangeCheck 21 = .ok (.iload_n 1, 1) := by decide +kernel
theorem d_A_rangeCheck_22 : decode b_A_rangeCheck 22 = .ok (.invokevirtual 54, 3) := by decide +kernel
theorem d_A_rangeCheck_25 : decode b_A_rangeCheck 25 = .ok (.ldc 57, 2) := by decide +kernel
theorem d_A_rangeCheck_27 : decode b_A_rangeCheck 27 = .ok (.invokevirtual 50, 3) := by decide +kernel
theorem d_A_rangeCheck_30 : decode b_A_rangeCheck 30 = .ok (.iload_n 2, 1) := by decide +kernel
theorem d_A_rangeCheck_31 : decode b_A_rangeCheck 31 = .ok (.invokevirtual 54, 3) := by decide +kernel
theorem d_A_rangeCheck_34 : decode b_A_rangeCheck 34 = .ok (.ldc 59, 2) := by decide +kernel
theorem d_A_rangeCheck_36 : decode b_A_rangeCheck 36 = .ok (.invokevirtual 50, 3) := by decide +kernel
theorem d_A_rangeCheck_39 : decode b_A_rangeCheck 39 = .ok (.invokevirtual 61, 3) := by decide +kernel
theorem d_A_rangeCheck_42 : decode b_A_rangeCheck 42 = .ok (.invokespecial 65, 3) := by decide +kernel
theorem d_A_rangeCheck_45 : decode b_A_rangeCheck 45 = .ok (.athrow, 1) := by decide +kernel
theorem d_A_rangeCheck_46 : decode b_A_rangeCheck 46 = .ok (.iload_n 1, 1) := by decide +kernel
theorem d_A_rangeCheck_47 : decode b_A_rangeCheck 47 = .ok (.ifCond .ge 12, 3) := by decide +kernel
theorem d_A_rangeCheck_50 : decode b_A_rangeCheck 50 = .ok (.new 68, 3) := by decide +kernel
theorem d_A_rangeCheck_53 : decode b_A_rangeCheck 53 = .ok (.dup, 1) := by decide +kernel
theorem d_A_rangeCheck_54 : decode b_A_rangeCheck 54 = .ok (.iload_n 1, 1) := by decide +kernel
theorem d_A_rangeCheck_55 : decode b_A_rangeCheck 55 = .ok (.invokespecial 70, 3) := by decide +kernel
theorem d_A_rangeCheck_58 : decode b_A_rangeCheck 58 = .ok (.athrow, 1) := by decide +kernel
theorem d_A_rangeCheck_59 : decode b_A_rangeCheck 59 = .ok (.iload_n 2, 1) := by decide +kernel
theorem d_A_rangeCheck_60 : decode b_A_rangeCheck 60 = .ok (.iload_n 0, 1) := by decide +kernel
theorem d_A_rangeCheck_61 : decode b_A_rangeCheck 61 = .ok (.if_icmp .le 12, 3) := by decide +kernel
theorem d_A_rangeCheck_64 : decode b_A_rangeCheck 64 = .ok (.new 68, 3) := by decide +kernel
theorem d_A_rangeCheck_67 : decode b_A_rangeCheck 67 = .ok (.dup, 1) := by decide +kernel
theorem d_A_rangeCheck_68 : decode b_A_rangeCheck 68 = .ok (.iload_n 2, 1) := by decide +kernel
theorem d_A_rangeCheck_69 : decode b_A_rangeCheck 69 = .ok (.invokespecial 70, 3) := by decide +kernel
theorem d_A_rangeCheck_72 : decode b_A_rangeCheck 72 = .ok (.athrow, 1) := by decide +kernel
theorem d_A_rangeCheck_73 : decode b_A_rangeCheck 73 = .ok (.return_, 1) := by decide +kernel
theorem d_G_freeBlocksWithoutObjects_0 : decode b_G_freeBlocksWithoutObjects 0 = .ok (.iconst 0, 1) := by decide +kernel
theorem d_G_freeBlocksWithoutObjects_1 : decode b_G_freeBlocksWithoutObjects 1 = .ok (.istore_n 1, 1) := by decide +kernel
theorem d_G_freeBlocksWithoutObjects_2 : decode b_G_freeBlocksWithoutObjects 2 = .ok (.iload_n 1, 1) := by decide +kernel
theorem d_G_freeBlocksWithoutObjects_3 : decode b_G_freeBlocksWithoutObjects 3 = .ok (.bipush 16, 2) := by decide +kernel
theorem d_G_freeBlocksWithoutObjects_5 : decode b_G_freeBlocksWithoutObjects 5 = .ok (.if_icmp .ge 26, 3) := by decide +kernel
theorem d_G_freeBlocksWithoutObjects_8 : decode b_G_freeBlocksWithoutObjects 8 = .ok (.aload_n 0, 1) := by decide +kernel
theorem d_G_freeBlocksWithoutObjects_9 : decode b_G_freeBlocksWithoutObjects 9 = .ok (.iload_n 1, 1) := by decide +kernel
theorem d_G_freeBlocksWithoutObjects_10 : decode b_G_freeBlocksWithoutObjects 10 = .ok (.invokevirtual 105, 3) := by decide +kernel
theorem d_G_freeBlocksWithoutObjects_13 : decode b_G_freeBlocksWithoutObjects 13 = .ok (.bipush 32, 2) := by decide +kernel
theorem d_G_freeBlocksWithoutObjects_15 : decode b_G_freeBlocksWithoutObjects 15 = .ok (.if_icmp .ne 10, 3) := by decide +kernel
theorem d_G_freeBlocksWithoutObjects_18 : decode b_G_freeBlocksWithoutObjects 18 = .ok (.aload_n 0, 1) := by decide +kernel
theorem d_G_freeBlocksWithoutObjects_19 : decode b_G_freeBlocksWithoutObjects 19 = .ok (.getfield 13, 3) := by decide +kernel
theorem d_G_freeBlocksWithoutObjects_22 : decode b_G_freeBlocksWithoutObjects 22 = .ok (.iload_n 1, 1) := by decide +kernel
theorem d_G_freeBlocksWithoutObjects_23 : decode b_G_freeBlocksWithoutObjects 23 = .ok (.iconst 0, 1) := by decide +kernel
theorem d_G_freeBlocksWithoutObjects_24 : decode b_G_freeBlocksWithoutObjects 24 = .ok (.iastore, 1) := by decide +kernel
theorem d_G_freeBlocksWithoutObjects_25 : decode b_G_freeBlocksWithoutObjects 25 = .ok (.iinc 1 1, 3) := by decide +kernel
theorem d_G_freeBlocksWithoutObjects_28 : decode b_G_freeBlocksWithoutObjects 28 = .ok (.goto (-26), 3) := by decide +kernel
theorem d_G_freeBlocksWithoutObjects_31 : decode b_G_freeBlocksWithoutObjects 31 = .ok (.return_, 1) := by decide +kernel
theorem d_G_wordsInNoObject_0 : decode b_G_wordsInNoObject 0 = .ok (.iconst 0, 1) := by decide +kernel
theorem d_G_wordsInNoObject_1 : decode b_G_wordsInNoObject 1 = .ok (.istore_n 2, 1) := by decide +kernel
theorem d_G_wordsInNoObject_2 : decode b_G_wordsInNoObject 2 = .ok (.iconst 0, 1) := by decide +kernel
theorem d_G_wordsInNoObject_3 : decode b_G_wordsInNoObject 3 = .ok (.istore_n 3, 1) := by decide +kernel
theorem d_G_wordsInNoObject_4 : decode b_G_wordsInNoObject 4 = .ok (.iload_n 3, 1) := by decide +kernel
theorem d_G_wordsInNoObject_5 : decode b_G_wordsInNoObject 5 = .ok (.bipush 32, 2) := by decide +kernel
theorem d_G_wordsInNoObject_7 : decode b_G_wordsInNoObject 7 = .ok (.if_icmp .ge 27, 3) := by decide +kernel
theorem d_G_wordsInNoObject_10 : decode b_G_wordsInNoObject 10 = .ok (.aload_n 0, 1) := by decide +kernel
theorem d_G_wordsInNoObject_11 : decode b_G_wordsInNoObject 11 = .ok (.getfield 23, 3) := by decide +kernel
theorem d_G_wordsInNoObject_14 : decode b_G_wordsInNoObject 14 = .ok (.iload_n 1, 1) := by decide +kernel
theorem d_G_wordsInNoObject_15 : decode b_G_wordsInNoObject 15 = .ok (.bipush 32, 2) := by decide +kernel
theorem d_G_wordsInNoObject_17 : decode b_G_wordsInNoObject 17 = .ok (.imul, 1) := by decide +kernel
theorem d_G_wordsInNoObject_18 : decode b_G_wordsInNoObject 18 = .ok (.iload_n 3, 1) := by decide +kernel
theorem d_G_wordsInNoObject_19 : decode b_G_wordsInNoObject 19 = .ok (.iadd, 1) := by decide +kernel
theorem d_G_wordsInNoObject_20 : decode b_G_wordsInNoObject 20 = .ok (.iaload, 1) := by decide +kernel
theorem d_G_wordsInNoObject_21 : decode b_G_wordsInNoObject 21 = .ok (.iconst (-1), 1) := by decide +kernel
theorem d_G_wordsInNoObject_22 : decode b_G_wordsInNoObject 22 = .ok (.if_icmp .ne 6, 3) := by decide +kernel
theorem d_G_wordsInNoObject_25 : decode b_G_wordsInNoObject 25 = .ok (.iinc 2 1, 3) := by decide +kernel
theorem d_G_wordsInNoObject_28 : decode b_G_wordsInNoObject 28 = .ok (.iinc 3 1, 3) := by decide +kernel
theorem d_G_wordsInNoObject_31 : decode b_G_wordsInNoObject 31 = .ok (.goto (-27), 3) := by decide +kernel
theorem d_G_wordsInNoObject_34 : decode b_G_wordsInNoObject 34 = .ok (.iload_n 2, 1) := by decide +kernel
theorem d_G_wordsInNoObject_35 : decode b_G_wordsInNoObject 35 = .ok (.ireturn, 1) := by decide +kernel
theorem d_G_base_0 : decode b_G_base 0 = .ok (.aload_n 0, 1) := by decide +kernel
theorem d_G_base_1 : decode b_G_base 1 = .ok (.iload_n 1, 1) := by decide +kernel
theorem d_G_base_2 : decode b_G_base 2 = .ok (.invokevirtual 95, 3) := by decide +kernel
theorem d_G_base_5 : decode b_G_base 5 = .ok (.istore_n 2, 1) := by decide +kernel
theorem d_G_base_6 : decode b_G_base 6 = .ok (.iload_n 2, 1) := by decide +kernel
theorem d_G_base_7 : decode b_G_base 7 = .ok (.iconst (-1), 1) := by decide +kernel
theorem d_G_base_8 : decode b_G_base 8 = .ok (.if_icmp .ne 7, 3) := by decide +kernel
theorem d_G_base_11 : decode b_G_base 11 = .ok (.iconst (-1), 1) := by decide +kernel
theorem d_G_base_12 : decode b_G_base 12 = .ok (.goto 8, 3) := by decide +kernel
theorem d_G_base_15 : decode b_G_base 15 = .ok (.sipush 4096, 3) := by decide +kernel
theorem d_G_base_18 : decode b_G_base 18 = .ok (.iload_n 2, 1) := by decide +kernel
theorem d_G_base_19 : decode b_G_base 19 = .ok (.iadd, 1) := by decide +kernel
theorem d_G_base_20 : decode b_G_base 20 = .ok (.ireturn, 1) := by decide +kernel
theorem d_G_size_0 : decode b_G_size 0 = .ok (.aload_n 0, 1) := by decide +kernel
theorem d_G_size_1 : decode b_G_size 1 = .ok (.iload_n 1, 1) := by decide +kernel
theorem d_G_size_2 : decode b_G_size 2 = .ok (.invokevirtual 95, 3) := by decide +kernel
theorem d_G_size_5 : decode b_G_size 5 = .ok (.istore_n 2, 1) := by decide +kernel
theorem d_G_size_6 : decode b_G_size 6 = .ok (.iload_n 2, 1) := by decide +kernel
theorem d_G_size_7 : decode b_G_size 7 = .ok (.iconst (-1), 1) := by decide +kernel
theorem d_G_size_8 : decode b_G_size 8 = .ok (.if_icmp .ne 7, 3) := by decide +kernel
theorem d_G_size_11 : decode b_G_size 11 = .ok (.iconst 0, 1) := by decide +kernel
theorem d_G_size_12 : decode b_G_size 12 = .ok (.goto 9, 3) := by decide +kernel
theorem d_G_size_15 : decode b_G_size 15 = .ok (.aload_n 0, 1) := by decide +kernel
theorem d_G_size_16 : decode b_G_size 16 = .ok (.getfield 26, 3) := by decide +kernel
theorem d_G_size_19 : decode b_G_size 19 = .ok (.iload_n 2, 1) := by decide +kernel
theorem d_G_size_20 : decode b_G_size 20 = .ok (.iaload, 1) := by decide +kernel
theorem d_G_size_21 : decode b_G_size 21 = .ok (.ireturn, 1) := by decide +kernel
theorem d_G_silent_0 : decode b_G_silent 0 = .ok (.aload_n 0, 1) := by decide +kernel
theorem d_G_silent_1 : decode b_G_silent 1 = .ok (.iload_n 1, 1) := by decide +kernel
theorem d_G_silent_2 : decode b_G_silent 2 = .ok (.invokevirtual 95, 3) := by decide +kernel
theorem d_G_silent_5 : decode b_G_silent 5 = .ok (.istore_n 2, 1) := by decide +kernel
theorem d_G_silent_6 : decode b_G_silent 6 = .ok (.iload_n 2, 1) := by decide +kernel
theorem d_G_silent_7 : decode b_G_silent 7 = .ok (.iconst (-1), 1) := by decide +kernel
theorem d_G_silent_8 : decode b_G_silent 8 = .ok (.if_icmp .eq 16, 3) := by decide +kernel
theorem d_G_silent_11 : decode b_G_silent 11 = .ok (.aload_n 0, 1) := by decide +kernel
theorem d_G_silent_12 : decode b_G_silent 12 = .ok (.getfield 29, 3) := by decide +kernel
theorem d_G_silent_15 : decode b_G_silent 15 = .ok (.iload_n 2, 1) := by decide +kernel
theorem d_G_silent_16 : decode b_G_silent 16 = .ok (.baload, 1) := by decide +kernel
theorem d_G_silent_17 : decode b_G_silent 17 = .ok (.ifCond .eq 7, 3) := by decide +kernel
theorem d_G_silent_20 : decode b_G_silent 20 = .ok (.iconst 1, 1) := by decide +kernel
theorem d_G_silent_21 : decode b_G_silent 21 = .ok (.goto 4, 3) := by decide +kernel
theorem d_G_silent_24 : decode b_G_silent 24 = .ok (.iconst 0, 1) := by decide +kernel
theorem d_G_silent_25 : decode b_G_silent 25 = .ok (.ireturn, 1) := by decide +kernel
theorem d_G_block_0 : decode b_G_block 0 = .ok (.iload_n 1, 1) := by decide +kernel
theorem d_G_block_1 : decode b_G_block 1 = .ok (.invokestatic 98, 3) := by decide +kernel
theorem d_G_block_4 : decode b_G_block 4 = .ok (.ifCond .ne 5, 3) := by decide +kernel
theorem d_G_block_7 : decode b_G_block 7 = .ok (.iconst (-1), 1) := by decide +kernel
theorem d_G_block_8 : decode b_G_block 8 = .ok (.ireturn, 1) := by decide +kernel
theorem d_G_block_9 : decode b_G_block 9 = .ok (.aload_n 0, 1) := by decide +kernel
theorem d_G_block_10 : decode b_G_block 10 = .ok (.getfield 16, 3) := by decide +kernel
theorem d_G_block_13 : decode b_G_block 13 = .ok (.iload_n 1, 1) := by decide +kernel
theorem d_G_block_14 : decode b_G_block 14 = .ok (.baload, 1) := by decide +kernel
theorem d_G_block_15 : decode b_G_block 15 = .ok (.ifCond .eq 15, 3) := by decide +kernel
theorem d_G_block_18 : decode b_G_block 18 = .ok (.aload_n 0, 1) := by decide +kernel
theorem d_G_block_19 : decode b_G_block 19 = .ok (.getfield 13, 3) := by decide +kernel
theorem d_G_block_22 : decode b_G_block 22 = .ok (.iload_n 1, 1) := by decide +kernel
theorem d_G_block_23 : decode b_G_block 23 = .ok (.iaload, 1) := by decide +kernel
theorem d_G_block_24 : decode b_G_block 24 = .ok (.bipush 64, 2) := by decide +kernel
theorem d_G_block_26 : decode b_G_block 26 = .ok (.iadd, 1) := by decide +kernel
theorem d_G_block_27 : decode b_G_block 27 = .ok (.goto 9, 3) := by decide +kernel
theorem d_G_block_30 : decode b_G_block 30 = .ok (.aload_n 0, 1) := by decide +kernel
theorem d_G_block_31 : decode b_G_block 31 = .ok (.getfield 13, 3) := by decide +kernel
theorem d_G_block_34 : decode b_G_block 34 = .ok (.iload_n 1, 1) := by decide +kernel
theorem d_G_block_35 : decode b_G_block 35 = .ok (.iaload, 1) := by decide +kernel
theorem d_G_block_36 : decode b_G_block 36 = .ok (.ireturn, 1) := by decide +kernel
theorem d_G_isBlock_0 : decode b_G_isBlock 0 = .ok (.iload_n 0, 1) := by decide +kernel
theorem d_G_isBlock_1 : decode b_G_isBlock 1 = .ok (.ifCond .lt 13, 3) := by decide +kernel
theorem d_G_isBlock_4 : decode b_G_isBlock 4 = .ok (.iload_n 0, 1) := by decide +kernel
theorem d_G_isBlock_5 : decode b_G_isBlock 5 = .ok (.bipush 16, 2) := by decide +kernel
theorem d_G_isBlock_7 : decode b_G_isBlock 7 = .ok (.if_icmp .ge 7, 3) := by decide +kernel
theorem d_G_isBlock_10 : decode b_G_isBlock 10 = .ok (.iconst 1, 1) := by decide +kernel
theorem d_G_isBlock_11 : decode b_G_isBlock 11 = .ok (.goto 4, 3) := by decide +kernel
theorem d_G_isBlock_14 : decode b_G_isBlock 14 = .ok (.iconst 0, 1) := by decide +kernel
theorem d_G_isBlock_15 : decode b_G_isBlock 15 = .ok (.ireturn, 1) := by decide +kernel
theorem d_G_empty_0 : decode b_G_empty 0 = .ok (.iload_n 1, 1) := by decide +kernel
theorem d_G_empty_1 : decode b_G_empty 1 = .ok (.invokestatic 98, 3) := by decide +kernel
theorem d_G_empty_4 : decode b_G_empty 4 = .ok (.ifCond .eq 11, 3) := by decide +kernel
theorem d_G_empty_7 : decode b_G_empty 7 = .ok (.aload_n 0, 1) := by decide +kernel
theorem d_G_empty_8 : decode b_G_empty 8 = .ok (.iload_n 1, 1) := by decide +kernel
theorem d_G_empty_9 : decode b_G_empty 9 = .ok (.invokevirtual 102, 3) := by decide +kernel
theorem d_G_empty_12 : decode b_G_empty 12 = .ok (.ifCond .ne 5, 3) := by decide +kernel
theorem d_G_empty_15 : decode b_G_empty 15 = .ok (.iconst 0, 1) := by decide +kernel
theorem d_G_empty_16 : decode b_G_empty 16 = .ok (.ireturn, 1) := by decide +kernel
theorem d_G_empty_17 : decode b_G_empty 17 = .ok (.aload_n 0, 1) := by decide +kernel
theorem d_G_empty_18 : decode b_G_empty 18 = .ok (.iload_n 1, 1) := by decide +kernel
theorem d_G_empty_19 : decode b_G_empty 19 = .ok (.invokevirtual 105, 3) := by decide +kernel
theorem d_G_empty_22 : decode b_G_empty 22 = .ok (.aload_n 0, 1) := by decide +kernel
theorem d_G_empty_23 : decode b_G_empty 23 = .ok (.getfield 13, 3) := by decide +kernel
theorem d_G_empty_26 : decode b_G_empty 26 = .ok (.iload_n 1, 1) := by decide +kernel
theorem d_G_empty_27 : decode b_G_empty 27 = .ok (.iaload, 1) := by decide +kernel
theorem d_G_empty_28 : decode b_G_empty 28 = .ok (.idiv, 1) := by decide +kernel
theorem d_G_empty_29 : decode b_G_empty 29 = .ok (.ireturn, 1) := by decide +kernel
theorem d_G_isSplit_0 : decode b_G_isSplit 0 = .ok (.aload_n 0, 1) := by decide +kernel
theorem d_G_isSplit_1 : decode b_G_isSplit 1 = .ok (.getfield 13, 3) := by decide +kernel
theorem d_G_isSplit_4 : decode b_G_isSplit 4 = .ok (.iload_n 1, 1) := by decide +kernel
theorem d_G_isSplit_5 : decode b_G_isSplit 5 = .ok (.iaload, 1) := by decide +kernel
theorem d_G_isSplit_6 : decode b_G_isSplit 6 = .ok (.iconst 2, 1) := by decide +kernel
theorem d_G_isSplit_7 : decode b_G_isSplit 7 = .ok (.if_icmp .lt 18, 3) := by decide +kernel
theorem d_G_isSplit_10 : decode b_G_isSplit 10 = .ok (.aload_n 0, 1) := by decide +kernel
theorem d_G_isSplit_11 : decode b_G_isSplit 11 = .ok (.getfield 13, 3) := by decide +kernel
theorem d_G_isSplit_14 : decode b_G_isSplit 14 = .ok (.iload_n 1, 1) := by decide +kernel
theorem d_G_isSplit_15 : decode b_G_isSplit 15 = .ok (.iaload, 1) := by decide +kernel
theorem d_G_isSplit_16 : decode b_G_isSplit 16 = .ok (.bipush 16, 2) := by decide +kernel
theorem d_G_isSplit_18 : decode b_G_isSplit 18 = .ok (.if_icmp .gt 7, 3) := by decide +kernel
theorem d_G_isSplit_21 : decode b_G_isSplit 21 = .ok (.iconst 1, 1) := by decide +kernel
theorem d_G_isSplit_22 : decode b_G_isSplit 22 = .ok (.goto 4, 3) := by decide +kernel
theorem d_G_isSplit_25 : decode b_G_isSplit 25 = .ok (.iconst 0, 1) := by decide +kernel
theorem d_G_isSplit_26 : decode b_G_isSplit 26 = .ok (.ireturn, 1) := by decide +kernel
theorem d_G_objects_0 : decode b_G_objects 0 = .ok (.aload_n 0, 1) := by decide +kernel
theorem d_G_objects_1 : decode b_G_objects 1 = .ok (.getfield 42, 3) := by decide +kernel
theorem d_G_objects_4 : decode b_G_objects 4 = .ok (.ireturn, 1) := by decide +kernel
theorem d_G_collections_0 : decode b_G_collections 0 = .ok (.aload_n 0, 1) := by decide +kernel
theorem d_G_collections_1 : decode b_G_collections 1 = .ok (.getfield 45, 3) := by decide +kernel
theorem d_G_collections_4 : decode b_G_collections 4 = .ok (.ireturn, 1) := by decide +kernel
theorem d_G_allocate_0 : decode b_G_allocate 0 = .ok (.iload_n 1, 1) := by decide +kernel
theorem d_G_allocate_1 : decode b_G_allocate 1 = .ok (.iconst 1, 1) := by decide +kernel
theorem d_G_allocate_2 : decode b_G_allocate 2 = .ok (.if_icmp .lt 10, 3) := by decide +kernel
theorem d_G_allocate_5 : decode b_G_allocate 5 = .ok (.iload_n 1, 1) := by decide +kernel
theorem d_G_allocate_6 : decode b_G_allocate 6 = .ok (.sipush 128, 3) := by decide +kernel
theorem d_G_allocate_9 : decode b_G_allocate 9 = .ok (.if_icmp .le 13, 3) := by decide +kernel
theorem d_G_allocate_12 : decode b_G_allocate 12 = .ok (.new 54, 3) := by decide +kernel
theorem d_G_allocate_15 : decode b_G_allocate 15 = .ok (.dup, 1) := by decide +kernel
theorem d_G_allocate_16 : decode b_G_allocate 16 = .ok (.ldc 56, 2) := by decide +kernel
theorem d_G_allocate_18 : decode b_G_allocate 18 = .ok (.invokespecial 58, 3) := by decide +kernel
theorem d_G_allocate_21 : decode b_G_allocate 21 = .ok (.athrow, 1) := by decide +kernel
theorem d_G_allocate_22 : decode b_G_allocate 22 = .ok (.aload_n 0, 1) := by decide +kernel
theorem d_G_allocate_23 : decode b_G_allocate 23 = .ok (.iload_n 1, 1) := by decide +kernel
theorem d_G_allocate_24 : decode b_G_allocate 24 = .ok (.iconst 0, 1) := by decide +kernel
theorem d_G_allocate_25 : decode b_G_allocate 25 = .ok (.invokevirtual 61, 3) := by decide +kernel
theorem d_G_allocate_28 : decode b_G_allocate 28 = .ok (.istore_n 3, 1) := by decide +kernel
theorem d_G_allocate_29 : decode b_G_allocate 29 = .ok (.iload_n 3, 1) := by decide +kernel
theorem d_G_allocate_30 : decode b_G_allocate 30 = .ok (.iconst (-1), 1) := by decide +kernel
theorem d_G_allocate_31 : decode b_G_allocate 31 = .ok (.if_icmp .ne 15, 3) := by decide +kernel
theorem d_G_allocate_34 : decode b_G_allocate 34 = .ok (.aload_n 0, 1) := by decide +kernel
theorem d_G_allocate_35 : decode b_G_allocate 35 = .ok (.invokevirtual 65, 3) := by decide +kernel
theorem d_G_allocate_38 : decode b_G_allocate 38 = .ok (.pop, 1) := by decide +kernel
theorem d_G_allocate_39 : decode b_G_allocate 39 = .ok (.aload_n 0, 1) := by decide +kernel
theorem d_G_allocate_40 : decode b_G_allocate 40 = .ok (.iload_n 1, 1) := by decide +kernel
theorem d_G_allocate_41 : decode b_G_allocate 41 = .ok (.iconst 0, 1) := by decide +kernel
theorem d_G_allocate_42 : decode b_G_allocate 42 = .ok (.invokevirtual 61, 3) := by decide +kernel
theorem d_G_allocate_45 : decode b_G_allocate 45 = .ok (.istore_n 3, 1) := by decide +kernel
theorem d_G_allocate_46 : decode b_G_allocate 46 = .ok (.iload_n 3, 1) := by decide +kernel
theorem d_G_allocate_47 : decode b_G_allocate 47 = .ok (.iconst (-1), 1) := by decide +kernel
theorem d_G_allocate_48 : decode b_G_allocate 48 = .ok (.if_icmp .ne 10, 3) := by decide +kernel
theorem d_G_allocate_51 : decode b_G_allocate 51 = .ok (.aload_n 0, 1) := by decide +kernel
theorem d_G_allocate_52 : decode b_G_allocate 52 = .ok (.iload_n 1, 1) := by decide +kernel
theorem d_G_allocate_53 : decode b_G_allocate 53 = .ok (.iconst 1, 1) := by decide +kernel
theorem d_G_allocate_54 : decode b_G_allocate 54 = .ok (.invokevirtual 61, 3) := by decide +kernel
theorem d_G_allocate_57 : decode b_G_allocate 57 = .ok (.istore_n 3, 1) := by decide +kernel
theorem d_G_allocate_58 : decode b_G_allocate 58 = .ok (.iload_n 3, 1) := by decide +kernel
theorem d_G_allocate_59 : decode b_G_allocate 59 = .ok (.iconst (-1), 1) := by decide +kernel
theorem d_G_allocate_60 : decode b_G_allocate 60 = .ok (.if_icmp .ne 13, 3) := by decide +kernel
theorem d_G_allocate_63 : decode b_G_allocate 63 = .ok (.new 69, 3) := by decide +kernel
theorem d_G_allocate_66 : decode b_G_allocate 66 = .ok (.dup, 1) := by decide +kernel
theorem d_G_allocate_67 : decode b_G_allocate 67 = .ok (.ldc 71, 2) := by decide +kernel
theorem d_G_allocate_69 : decode b_G_allocate 69 = .ok (.invokespecial 73, 3) := by decide +kernel
theorem d_G_allocate_72 : decode b_G_allocate 72 = .ok (.athrow, 1) := by decide +kernel
theorem d_G_allocate_73 : decode b_G_allocate 73 = .ok (.iload_n 1, 1) := by decide +kernel
theorem d_G_allocate_74 : decode b_G_allocate 74 = .ok (.bipush 16, 2) := by decide +kernel
theorem d_G_allocate_76 : decode b_G_allocate 76 = .ok (.if_icmp .gt 16, 3) := by decide +kernel
theorem d_G_allocate_79 : decode b_G_allocate 79 = .ok (.aload_n 0, 1) := by decide +kernel
theorem d_G_allocate_80 : decode b_G_allocate 80 = .ok (.iload_n 3, 1) := by decide +kernel
theorem d_G_allocate_81 : decode b_G_allocate 81 = .ok (.iload_n 1, 1) := by decide +kernel
theorem d_G_allocate_82 : decode b_G_allocate 82 = .ok (.invokestatic 74, 3) := by decide +kernel
theorem d_G_allocate_85 : decode b_G_allocate 85 = .ok (.iload_n 2, 1) := by decide +kernel
theorem d_G_allocate_86 : decode b_G_allocate 86 = .ok (.invokevirtual 78, 3) := by decide +kernel
theorem d_G_allocate_89 : decode b_G_allocate 89 = .ok (.goto 13, 3) := by decide +kernel
theorem d_G_allocate_92 : decode b_G_allocate 92 = .ok (.aload_n 0, 1) := by decide +kernel
theorem d_G_allocate_93 : decode b_G_allocate 93 = .ok (.iload_n 3, 1) := by decide +kernel
theorem d_G_allocate_94 : decode b_G_allocate 94 = .ok (.iload_n 1, 1) := by decide +kernel
theorem d_G_allocate_95 : decode b_G_allocate 95 = .ok (.invokestatic 82, 3) := by decide +kernel
theorem d_G_allocate_98 : decode b_G_allocate 98 = .ok (.iload_n 2, 1) := by decide +kernel
theorem d_G_allocate_99 : decode b_G_allocate 99 = .ok (.invokevirtual 85, 3) := by decide +kernel
theorem d_G_allocate_102 : decode b_G_allocate 102 = .ok (.sipush 4096, 3) := by decide +kernel
theorem d_G_allocate_105 : decode b_G_allocate 105 = .ok (.iload_n 3, 1) := by decide +kernel
theorem d_G_allocate_106 : decode b_G_allocate 106 = .ok (.iadd, 1) := by decide +kernel
theorem d_G_allocate_107 : decode b_G_allocate 107 = .ok (.ireturn, 1) := by decide +kernel
theorem d_G_findRoom_0 : decode b_G_findRoom 0 = .ok (.iload_n 1, 1) := by decide +kernel
theorem d_G_findRoom_1 : decode b_G_findRoom 1 = .ok (.bipush 16, 2) := by decide +kernel
theorem d_G_findRoom_3 : decode b_G_findRoom 3 = .ok (.if_icmp .le 13, 3) := by decide +kernel
theorem d_G_findRoom_6 : decode b_G_findRoom 6 = .ok (.aload_n 0, 1) := by decide +kernel
theorem d_G_findRoom_7 : decode b_G_findRoom 7 = .ok (.iload_n 1, 1) := by decide +kernel
theorem d_G_findRoom_8 : decode b_G_findRoom 8 = .ok (.invokestatic 82, 3) := by decide +kernel
theorem d_G_findRoom_11 : decode b_G_findRoom 11 = .ok (.iload_n 2, 1) := by decide +kernel
theorem d_G_findRoom_12 : decode b_G_findRoom 12 = .ok (.invokevirtual 120, 3) := by decide +kernel
theorem d_G_findRoom_15 : decode b_G_findRoom 15 = .ok (.ireturn, 1) := by decide +kernel
theorem d_G_findRoom_16 : decode b_G_findRoom 16 = .ok (.aload_n 0, 1) := by decide +kernel
theorem d_G_findRoom_17 : decode b_G_findRoom 17 = .ok (.iload_n 1, 1) := by decide +kernel
theorem d_G_findRoom_18 : decode b_G_findRoom 18 = .ok (.invokestatic 74, 3) := by decide +kernel
theorem d_G_findRoom_21 : decode b_G_findRoom 21 = .ok (.invokevirtual 123, 3) := by decide +kernel
theorem d_G_findRoom_24 : decode b_G_findRoom 24 = .ok (.istore_n 3, 1) := by decide +kernel
theorem d_G_findRoom_25 : decode b_G_findRoom 25 = .ok (.iload_n 3, 1) := by decide +kernel
theorem d_G_findRoom_26 : decode b_G_findRoom 26 = .ok (.iconst (-1), 1) := by decide +kernel
theorem d_G_findRoom_27 : decode b_G_findRoom 27 = .ok (.if_icmp .eq 7, 3) := by decide +kernel
theorem d_G_findRoom_30 : decode b_G_findRoom 30 = .ok (.iload_n 3, 1) := by decide +kernel
theorem d_G_findRoom_31 : decode b_G_findRoom 31 = .ok (.goto 9, 3) := by decide +kernel
theorem d_G_findRoom_34 : decode b_G_findRoom 34 = .ok (.aload_n 0, 1) := by decide +kernel
theorem d_G_findRoom_35 : decode b_G_findRoom 35 = .ok (.iconst 1, 1) := by decide +kernel
theorem d_G_findRoom_36 : decode b_G_findRoom 36 = .ok (.iload_n 2, 1) := by decide +kernel
theorem d_G_findRoom_37 : decode b_G_findRoom 37 = .ok (.invokevirtual 120, 3) := by decide +kernel
theorem d_G_findRoom_40 : decode b_G_findRoom 40 = .ok (.ireturn, 1) := by decide +kernel
theorem d_G_blocksFor_0 : decode b_G_blocksFor 0 = .ok (.iload_n 0, 1) := by decide +kernel
theorem d_G_blocksFor_1 : decode b_G_blocksFor 1 = .ok (.bipush 32, 2) := by decide +kernel
theorem d_G_blocksFor_3 : decode b_G_blocksFor 3 = .ok (.iadd, 1) := by decide +kernel
theorem d_G_blocksFor_4 : decode b_G_blocksFor 4 = .ok (.iconst 1, 1) := by decide +kernel
theorem d_G_blocksFor_5 : decode b_G_blocksFor 5 = .ok (.isub, 1) := by decide +kernel
theorem d_G_blocksFor_6 : decode b_G_blocksFor 6 = .ok (.bipush 32, 2) := by decide +kernel
theorem d_G_blocksFor_8 : decode b_G_blocksFor 8 = .ok (.idiv, 1) := by decide +kernel
theorem d_G_blocksFor_9 : decode b_G_blocksFor 9 = .ok (.ireturn, 1) := by decide +kernel
theorem d_G_findBlocks_0 : decode b_G_findBlocks 0 = .ok (.iconst 0, 1) := by decide +kernel
theorem d_G_findBlocks_1 : decode b_G_findBlocks 1 = .ok (.istore_n 3, 1) := by decide +kernel
theorem d_G_findBlocks_2 : decode b_G_findBlocks 2 = .ok (.iconst 0, 1) := by decide +kernel
theorem d_G_findBlocks_3 : decode b_G_findBlocks 3 = .ok (.istore 4, 2) := by decide +kernel
theorem d_G_findBlocks_5 : decode b_G_findBlocks 5 = .ok (.iload 4, 2) := by decide +kernel
theorem d_G_findBlocks_7 : decode b_G_findBlocks 7 = .ok (.bipush 16, 2) := by decide +kernel
theorem d_G_findBlocks_9 : decode b_G_findBlocks 9 = .ok (.if_icmp .ge 68, 3) := by decide +kernel
theorem d_G_findBlocks_12 : decode b_G_findBlocks 12 = .ok (.aload_n 0, 1) := by decide +kernel
theorem d_G_findBlocks_13 : decode b_G_findBlocks 13 = .ok (.getfield 13, 3) := by decide +kernel
theorem d_G_findBlocks_16 : decode b_G_findBlocks 16 = .ok (.iload 4, 2) := by decide +kernel
theorem d_G_findBlocks_18 : decode b_G_findBlocks 18 = .ok (.iaload, 1) := by decide +kernel
theorem d_G_findBlocks_19 : decode b_G_findBlocks 19 = .ok (.ifCond .ne 21, 3) := by decide +kernel
theorem d_G_findBlocks_22 : decode b_G_findBlocks 22 = .ok (.iload_n 2, 1) := by decide +kernel
theorem d_G_findBlocks_23 : decode b_G_findBlocks 23 = .ok (.ifCond .ne 13, 3) := by decide +kernel
theorem d_G_findBlocks_26 : decode b_G_findBlocks 26 = .ok (.aload_n 0, 1) := by decide +kernel
theorem d_G_findBlocks_27 : decode b_G_findBlocks 27 = .ok (.getfield 16, 3) := by decide +kernel
theorem d_G_findBlocks_30 : decode b_G_findBlocks 30 = .ok (.iload 4, 2) := by decide +kernel
theorem d_G_findBlocks_32 : decode b_G_findBlocks 32 = .ok (.baload, 1) := by decide +kernel
theorem d_G_findBlocks_33 : decode b_G_findBlocks 33 = .ok (.ifCond .ne 7, 3) := by decide +kernel
theorem d_G_findBlocks_36 : decode b_G_findBlocks 36 = .ok (.iconst 1, 1) := by decide +kernel
theorem d_G_findBlocks_37 : decode b_G_findBlocks 37 = .ok (.goto 4, 3) := by decide +kernel
theorem d_G_findBlocks_40 : decode b_G_findBlocks 40 = .ok (.iconst 0, 1) := by decide +kernel
theorem d_G_findBlocks_41 : decode b_G_findBlocks 41 = .ok (.istore 5, 2) := by decide +kernel
theorem d_G_findBlocks_43 : decode b_G_findBlocks 43 = .ok (.iload 5, 2) := by decide +kernel
theorem d_G_findBlocks_45 : decode b_G_findBlocks 45 = .ok (.ifCond .eq 9, 3) := by decide +kernel
theorem d_G_findBlocks_48 : decode b_G_findBlocks 48 = .ok (.iload_n 3, 1) := by decide +kernel
theorem d_G_findBlocks_49 : decode b_G_findBlocks 49 = .ok (.iconst 1, 1) := by decide +kernel
theorem d_G_findBlocks_50 : decode b_G_findBlocks 50 = .ok (.iadd, 1) := by decide +kernel
theorem d_G_findBlocks_51 : decode b_G_findBlocks 51 = .ok (.goto 4, 3) := by decide +kernel
theorem d_G_findBlocks_54 : decode b_G_findBlocks 54 = .ok (.iconst 0, 1) := by decide +kernel
theorem d_G_findBlocks_55 : decode b_G_findBlocks 55 = .ok (.istore_n 3, 1) := by decide +kernel
theorem d_G_findBlocks_56 : decode b_G_findBlocks 56 = .ok (.iload_n 3, 1) := by decide +kernel
theorem d_G_findBlocks_57 : decode b_G_findBlocks 57 = .ok (.iload_n 1, 1) := by decide +kernel
theorem d_G_findBlocks_58 : decode b_G_findBlocks 58 = .ok (.if_icmp .ne 13, 3) := by decide +kernel
theorem d_G_findBlocks_61 : decode b_G_findBlocks 61 = .ok (.iload 4, 2) := by decide +kernel
theorem d_G_findBlocks_63 : decode b_G_findBlocks 63 = .ok (.iload_n 1, 1) := by decide +kernel
theorem d_G_findBlocks_64 : decode b_G_findBlocks 64 = .ok (.isub, 1) := by decide +kernel
theorem d_G_findBlocks_65 : decode b_G_findBlocks 65 = .ok (.iconst 1, 1) := by decide +kernel
theorem d_G_findBlocks_66 : decode b_G_findBlocks 66 = .ok (.iadd, 1) := by decide +kernel
theorem d_G_findBlocks_67 : decode b_G_findBlocks 67 = .ok (.bipush 32, 2) := by decide +kernel
theorem d_G_findBlocks_69 : decode b_G_findBlocks 69 = .ok (.imul, 1) := by decide +kernel
theorem d_G_findBlocks_70 : decode b_G_findBlocks 70 = .ok (.ireturn, 1) := by decide +kernel
theorem d_G_findBlocks_71 : decode b_G_findBlocks 71 = .ok (.iinc 4 1, 3) := by decide +kernel
theorem d_G_findBlocks_74 : decode b_G_findBlocks 74 = .ok (.goto (-69), 3) := by decide +kernel
theorem d_G_findBlocks_77 : decode b_G_findBlocks 77 = .ok (.iconst (-1), 1) := by decide +kernel
theorem d_G_findBlocks_78 : decode b_G_findBlocks 78 = .ok (.ireturn, 1) := by decide +kernel
theorem d_G_slotSize_0 : decode b_G_slotSize 0 = .ok (.iconst 2, 1) := by decide +kernel
theorem d_G_slotSize_1 : decode b_G_slotSize 1 = .ok (.istore_n 1, 1) := by decide +kernel
theorem d_G_slotSize_2 : decode b_G_slotSize 2 = .ok (.iload_n 1, 1) := by decide +kernel
theorem d_G_slotSize_3 : decode b_G_slotSize 3 = .ok (.bipush 16, 2) := by decide +kernel
theorem d_G_slotSize_5 : decode b_G_slotSize 5 = .ok (.if_icmp .ge 17, 3) := by decide +kernel
theorem d_G_slotSize_8 : decode b_G_slotSize 8 = .ok (.iload_n 1, 1) := by decide +kernel
theorem d_G_slotSize_9 : decode b_G_slotSize 9 = .ok (.iload_n 0, 1) := by decide +kernel
theorem d_G_slotSize_10 : decode b_G_slotSize 10 = .ok (.if_icmp .lt 5, 3) := by decide +kernel
theorem d_G_slotSize_13 : decode b_G_slotSize 13 = .ok (.iload_n 1, 1) := by decide +kernel
theorem d_G_slotSize_14 : decode b_G_slotSize 14 = .ok (.ireturn, 1) := by decide +kernel
theorem d_G_slotSize_15 : decode b_G_slotSize 15 = .ok (.iload_n 1, 1) := by decide +kernel
theorem d_G_slotSize_16 : decode b_G_slotSize 16 = .ok (.iconst 2, 1) := by decide +kernel
theorem d_G_slotSize_17 : decode b_G_slotSize 17 = .ok (.imul, 1) := by decide +kernel
theorem d_G_slotSize_18 : decode b_G_slotSize 18 = .ok (.istore_n 1, 1) := by decide +kernel
theorem d_G_slotSize_19 : decode b_G_slotSize 19 = .ok (.goto (-17), 3) := by decide +kernel
theorem d_G_slotSize_22 : decode b_G_slotSize 22 = .ok (.bipush 16, 2) := by decide +kernel
theorem d_G_slotSize_24 : decode b_G_slotSize 24 = .ok (.ireturn, 1) := by decide +kernel
theorem d_G_findEmptySlot_0 : decode b_G_findEmptySlot 0 = .ok (.iconst 0, 1) := by decide +kernel
theorem d_G_findEmptySlot_1 : decode b_G_findEmptySlot 1 = .ok (.istore_n 2, 1) := by decide +kernel
theorem d_G_findEmptySlot_2 : decode b_G_findEmptySlot 2 = .ok (.iload_n 2, 1) := by decide +kernel
theorem d_G_findEmptySlot_3 : decode b_G_findEmptySlot 3 = .ok (.sipush 512, 3) := by decide +kernel
theorem d_G_findEmptySlot_6 : decode b_G_findEmptySlot 6 = .ok (.if_icmp .ge 34, 3) := by decide +kernel
theorem d_G_findEmptySlot_9 : decode b_G_findEmptySlot 9 = .ok (.aload_n 0, 1) := by decide +kernel
theorem d_G_findEmptySlot_10 : decode b_G_findEmptySlot 10 = .ok (.getfield 13, 3) := by decide +kernel
theorem d_G_findEmptySlot_13 : decode b_G_findEmptySlot 13 = .ok (.iload_n 2, 1) := by decide +kernel
theorem d_G_findEmptySlot_14 : decode b_G_findEmptySlot 14 = .ok (.bipush 32, 2) := by decide +kernel
theorem d_G_findEmptySlot_16 : decode b_G_findEmptySlot 16 = .ok (.idiv, 1) := by decide +kernel
theorem d_G_findEmptySlot_17 : decode b_G_findEmptySlot 17 = .ok (.iaload, 1) := by decide +kernel
theorem d_G_findEmptySlot_18 : decode b_G_findEmptySlot 18 = .ok (.iload_n 1, 1) := by decide +kernel
theorem d_G_findEmptySlot_19 : decode b_G_findEmptySlot 19 = .ok (.if_icmp .ne 15, 3) := by decide +kernel
theorem d_G_findEmptySlot_22 : decode b_G_findEmptySlot 22 = .ok (.aload_n 0, 1) := by decide +kernel
theorem d_G_findEmptySlot_23 : decode b_G_findEmptySlot 23 = .ok (.getfield 23, 3) := by decide +kernel
theorem d_G_findEmptySlot_26 : decode b_G_findEmptySlot 26 = .ok (.iload_n 2, 1) := by decide +kernel
theorem d_G_findEmptySlot_27 : decode b_G_findEmptySlot 27 = .ok (.iaload, 1) := by decide +kernel
theorem d_G_findEmptySlot_28 : decode b_G_findEmptySlot 28 = .ok (.iconst (-1), 1) := by decide +kernel
theorem d_G_findEmptySlot_29 : decode b_G_findEmptySlot 29 = .ok (.if_icmp .ne 5, 3) := by decide +kernel
theorem d_G_findEmptySlot_32 : decode b_G_findEmptySlot 32 = .ok (.iload_n 2, 1) := by decide +kernel
theorem d_G_findEmptySlot_33 : decode b_G_findEmptySlot 33 = .ok (.ireturn, 1) := by decide +kernel
theorem d_G_findEmptySlot_34 : decode b_G_findEmptySlot 34 = .ok (.iinc 2 1, 3) := by decide +kernel
theorem d_G_findEmptySlot_37 : decode b_G_findEmptySlot 37 = .ok (.goto (-35), 3) := by decide +kernel
theorem d_G_findEmptySlot_40 : decode b_G_findEmptySlot 40 = .ok (.iconst (-1), 1) := by decide +kernel
theorem d_G_findEmptySlot_41 : decode b_G_findEmptySlot 41 = .ok (.ireturn, 1) := by decide +kernel
theorem d_G_placeSmall_0 : decode b_G_placeSmall 0 = .ok (.aload_n 0, 1) := by decide +kernel
theorem d_G_placeSmall_1 : decode b_G_placeSmall 1 = .ok (.iload_n 1, 1) := by decide +kernel
theorem d_G_placeSmall_2 : decode b_G_placeSmall 2 = .ok (.bipush 32, 2) := by decide +kernel
theorem d_G_placeSmall_4 : decode b_G_placeSmall 4 = .ok (.idiv, 1) := by decide +kernel
theorem d_G_placeSmall_5 : decode b_G_placeSmall 5 = .ok (.iload_n 2, 1) := by decide +kernel
theorem d_G_placeSmall_6 : decode b_G_placeSmall 6 = .ok (.invokevirtual 126, 3) := by decide +kernel
theorem d_G_placeSmall_9 : decode b_G_placeSmall 9 = .ok (.aload_n 0, 1) := by decide +kernel
theorem d_G_placeSmall_10 : decode b_G_placeSmall 10 = .ok (.iload_n 1, 1) := by decide +kernel
theorem d_G_placeSmall_11 : decode b_G_placeSmall 11 = .ok (.iload_n 2, 1) := by decide +kernel
theorem d_G_placeSmall_12 : decode b_G_placeSmall 12 = .ok (.iload_n 3, 1) := by decide +kernel
theorem d_G_placeSmall_13 : decode b_G_placeSmall 13 = .ok (.invokevirtual 130, 3) := by decide +kernel
theorem d_G_placeSmall_16 : decode b_G_placeSmall 16 = .ok (.return_, 1) := by decide +kernel
theorem d_G_takeBlock_0 : decode b_G_takeBlock 0 = .ok (.aload_n 0, 1) := by decide +kernel
theorem d_G_takeBlock_1 : decode b_G_takeBlock 1 = .ok (.getfield 13, 3) := by decide +kernel
theorem d_G_takeBlock_4 : decode b_G_takeBlock 4 = .ok (.iload_n 1, 1) := by decide +kernel
theorem d_G_takeBlock_5 : decode b_G_takeBlock 5 = .ok (.iload_n 2, 1) := by decide +kernel
theorem d_G_takeBlock_6 : decode b_G_takeBlock 6 = .ok (.iastore, 1) := by decide +kernel
theorem d_G_takeBlock_7 : decode b_G_takeBlock 7 = .ok (.aload_n 0, 1) := by decide +kernel
theorem d_G_takeBlock_8 : decode b_G_takeBlock 8 = .ok (.getfield 16, 3) := by decide +kernel
theorem d_G_takeBlock_11 : decode b_G_takeBlock 11 = .ok (.iload_n 1, 1) := by decide +kernel
theorem d_G_takeBlock_12 : decode b_G_takeBlock 12 = .ok (.iconst 0, 1) := by decide +kernel
theorem d_G_takeBlock_13 : decode b_G_takeBlock 13 = .ok (.bastore, 1) := by decide +kernel
theorem d_G_takeBlock_14 : decode b_G_takeBlock 14 = .ok (.return_, 1) := by decide +kernel
theorem d_G_placeObject_0 : decode b_G_placeObject 0 = .ok (.aload_n 0, 1) := by decide +kernel
theorem d_G_placeObject_1 : decode b_G_placeObject 1 = .ok (.getfield 23, 3) := by decide +kernel
theorem d_G_placeObject_4 : decode b_G_placeObject 4 = .ok (.iload_n 1, 1) := by decide +kernel
theorem d_G_placeObject_5 : decode b_G_placeObject 5 = .ok (.iload_n 1, 1) := by decide +kernel
theorem d_G_placeObject_6 : decode b_G_placeObject 6 = .ok (.iload_n 2, 1) := by decide +kernel
theorem d_G_placeObject_7 : decode b_G_placeObject 7 = .ok (.iadd, 1) := by decide +kernel
theorem d_G_placeObject_8 : decode b_G_placeObject 8 = .ok (.iload_n 1, 1) := by decide +kernel
theorem d_G_placeObject_9 : decode b_G_placeObject 9 = .ok (.invokestatic 133, 3) := by decide +kernel
theorem d_G_placeObject_12 : decode b_G_placeObject 12 = .ok (.aload_n 0, 1) := by decide +kernel
theorem d_G_placeObject_13 : decode b_G_placeObject 13 = .ok (.getfield 26, 3) := by decide +kernel
theorem d_G_placeObject_16 : decode b_G_placeObject 16 = .ok (.iload_n 1, 1) := by decide +kernel
theorem d_G_placeObject_17 : decode b_G_placeObject 17 = .ok (.iload_n 2, 1) := by decide +kernel
theorem d_G_placeObject_18 : decode b_G_placeObject 18 = .ok (.iastore, 1) := by decide +kernel
theorem d_G_placeObject_19 : decode b_G_placeObject 19 = .ok (.aload_n 0, 1) := by decide +kernel
theorem d_G_placeObject_20 : decode b_G_placeObject 20 = .ok (.getfield 29, 3) := by decide +kernel
theorem d_G_placeObject_23 : decode b_G_placeObject 23 = .ok (.iload_n 1, 1) := by decide +kernel
theorem d_G_placeObject_24 : decode b_G_placeObject 24 = .ok (.iload_n 3, 1) := by decide +kernel
theorem d_G_placeObject_25 : decode b_G_placeObject 25 = .ok (.bastore, 1) := by decide +kernel
theorem d_G_placeObject_26 : decode b_G_placeObject 26 = .ok (.aload_n 0, 1) := by decide +kernel
theorem d_G_placeObject_27 : decode b_G_placeObject 27 = .ok (.dup, 1) := by decide +kernel
theorem d_G_placeObject_28 : decode b_G_placeObject 28 = .ok (.getfield 42, 3) := by decide +kernel
theorem d_G_placeObject_31 : decode b_G_placeObject 31 = .ok (.iconst 1, 1) := by decide +kernel
theorem d_G_placeObject_32 : decode b_G_placeObject 32 = .ok (.iadd, 1) := by decide +kernel
theorem d_G_placeObject_33 : decode b_G_placeObject 33 = .ok (.putfield 42, 3) := by decide +kernel
theorem d_G_placeObject_36 : decode b_G_placeObject 36 = .ok (.return_, 1) := by decide +kernel
theorem d_G_placeLarge_0 : decode b_G_placeLarge 0 = .ok (.iload_n 1, 1) := by decide +kernel
theorem d_G_placeLarge_1 : decode b_G_placeLarge 1 = .ok (.bipush 32, 2) := by decide +kernel
theorem d_G_placeLarge_3 : decode b_G_placeLarge 3 = .ok (.idiv, 1) := by decide +kernel
theorem d_G_placeLarge_4 : decode b_G_placeLarge 4 = .ok (.istore 4, 2) := by decide +kernel
theorem d_G_placeLarge_6 : decode b_G_placeLarge 6 = .ok (.aload_n 0, 1) := by decide +kernel
theorem d_G_placeLarge_7 : decode b_G_placeLarge 7 = .ok (.iload 4, 2) := by decide +kernel
theorem d_G_placeLarge_9 : decode b_G_placeLarge 9 = .ok (.bipush 32, 2) := by decide +kernel
theorem d_G_placeLarge_11 : decode b_G_placeLarge 11 = .ok (.invokevirtual 126, 3) := by decide +kernel
theorem d_G_placeLarge_14 : decode b_G_placeLarge 14 = .ok (.iload 4, 2) := by decide +kernel
theorem d_G_placeLarge_16 : decode b_G_placeLarge 16 = .ok (.iconst 1, 1) := by decide +kernel
theorem d_G_placeLarge_17 : decode b_G_placeLarge 17 = .ok (.iadd, 1) := by decide +kernel
theorem d_G_placeLarge_18 : decode b_G_placeLarge 18 = .ok (.istore 5, 2) := by decide +kernel
theorem d_G_placeLarge_20 : decode b_G_placeLarge 20 = .ok (.iload 5, 2) := by decide +kernel
theorem d_G_placeLarge_22 : decode b_G_placeLarge 22 = .ok (.iload 4, 2) := by decide +kernel
theorem d_G_placeLarge_24 : decode b_G_placeLarge 24 = .ok (.iload_n 2, 1) := by decide +kernel
theorem d_G_placeLarge_25 : decode b_G_placeLarge 25 = .ok (.iadd, 1) := by decide +kernel
theorem d_G_placeLarge_26 : decode b_G_placeLarge 26 = .ok (.if_icmp .ge 17, 3) := by decide +kernel
theorem d_G_placeLarge_29 : decode b_G_placeLarge 29 = .ok (.aload_n 0, 1) := by decide +kernel
theorem d_G_placeLarge_30 : decode b_G_placeLarge 30 = .ok (.iload 5, 2) := by decide +kernel
theorem d_G_placeLarge_32 : decode b_G_placeLarge 32 = .ok (.bipush 33, 2) := by decide +kernel
theorem d_G_placeLarge_34 : decode b_G_placeLarge 34 = .ok (.invokevirtual 126, 3) := by decide +kernel
theorem d_G_placeLarge_37 : decode b_G_placeLarge 37 = .ok (.iinc 5 1, 3) := by decide +kernel
theorem d_G_placeLarge_40 : decode b_G_placeLarge 40 = .ok (.goto (-20), 3) := by decide +kernel
theorem d_G_placeLarge_43 : decode b_G_placeLarge 43 = .ok (.aload_n 0, 1) := by decide +kernel
theorem d_G_placeLarge_44 : decode b_G_placeLarge 44 = .ok (.iload_n 1, 1) := by decide +kernel
theorem d_G_placeLarge_45 : decode b_G_placeLarge 45 = .ok (.iload_n 2, 1) := by decide +kernel
theorem d_G_placeLarge_46 : decode b_G_placeLarge 46 = .ok (.bipush 32, 2) := by decide +kernel
theorem d_G_placeLarge_48 : decode b_G_placeLarge 48 = .ok (.imul, 1) := by decide +kernel
theorem d_G_placeLarge_49 : decode b_G_placeLarge 49 = .ok (.iload_n 3, 1) := by decide +kernel
theorem d_G_placeLarge_50 : decode b_G_placeLarge 50 = .ok (.invokevirtual 130, 3) := by decide +kernel
theorem d_G_placeLarge_53 : decode b_G_placeLarge 53 = .ok (.return_, 1) := by decide +kernel
theorem d_G_root_0 : decode b_G_root 0 = .ok (.iload_n 1, 1) := by decide +kernel
theorem d_G_root_1 : decode b_G_root 1 = .ok (.invokestatic 88, 3) := by decide +kernel
theorem d_G_root_4 : decode b_G_root 4 = .ok (.aload_n 0, 1) := by decide +kernel
theorem d_G_root_5 : decode b_G_root 5 = .ok (.getfield 9, 3) := by decide +kernel
theorem d_G_root_8 : decode b_G_root 8 = .ok (.iload_n 1, 1) := by decide +kernel
theorem d_G_root_9 : decode b_G_root 9 = .ok (.iload_n 2, 1) := by decide +kernel
theorem d_G_root_10 : decode b_G_root 10 = .ok (.iastore, 1) := by decide +kernel
theorem d_G_root_11 : decode b_G_root 11 = .ok (.return_, 1) := by decide +kernel
theorem d_G_checkRoot_0 : decode b_G_checkRoot 0 = .ok (.iload_n 0, 1) := by decide +kernel
theorem d_G_checkRoot_1 : decode b_G_checkRoot 1 = .ok (.ifCond .lt 9, 3) := by decide +kernel
theorem d_G_checkRoot_4 : decode b_G_checkRoot 4 = .ok (.iload_n 0, 1) := by decide +kernel
theorem d_G_checkRoot_5 : decode b_G_checkRoot 5 = .ok (.bipush 8, 2) := by decide +kernel
theorem d_G_checkRoot_7 : decode b_G_checkRoot 7 = .ok (.if_icmp .lt 13, 3) := by decide +kernel
theorem d_G_checkRoot_10 : decode b_G_checkRoot 10 = .ok (.new 108, 3) := by decide +kernel
theorem d_G_checkRoot_13 : decode b_G_checkRoot 13 = .ok (.dup, 1) := by decide +kernel
theorem d_G_checkRoot_14 : decode b_G_checkRoot 14 = .ok (.ldc 110, 2) := by decide +kernel
theorem d_G_checkRoot_16 : decode b_G_checkRoot 16 = .ok (.invokespecial 112, 3) := by decide +kernel
theorem d_G_checkRoot_19 : decode b_G_checkRoot 19 = .ok (.athrow, 1) := by decide +kernel
theorem d_G_checkRoot_20 : decode b_G_checkRoot 20 = .ok (.return_, 1) := by decide +kernel
theorem d_G_rooted_0 : decode b_G_rooted 0 = .ok (.iload_n 1, 1) := by decide +kernel
theorem d_G_rooted_1 : decode b_G_rooted 1 = .ok (.invokestatic 88, 3) := by decide +kernel
theorem d_G_rooted_4 : decode b_G_rooted 4 = .ok (.aload_n 0, 1) := by decide +kernel
theorem d_G_rooted_5 : decode b_G_rooted 5 = .ok (.getfield 9, 3) := by decide +kernel
theorem d_G_rooted_8 : decode b_G_rooted 8 = .ok (.iload_n 1, 1) := by decide +kernel
theorem d_G_rooted_9 : decode b_G_rooted 9 = .ok (.iaload, 1) := by decide +kernel
theorem d_G_rooted_10 : decode b_G_rooted 10 = .ok (.ireturn, 1) := by decide +kernel
theorem d_G_read_0 : decode b_G_read 0 = .ok (.aload_n 0, 1) := by decide +kernel
theorem d_G_read_1 : decode b_G_read 1 = .ok (.iload_n 1, 1) := by decide +kernel
theorem d_G_read_2 : decode b_G_read 2 = .ok (.invokevirtual 92, 3) := by decide +kernel
theorem d_G_read_5 : decode b_G_read 5 = .ok (.aload_n 0, 1) := by decide +kernel
theorem d_G_read_6 : decode b_G_read 6 = .ok (.getfield 20, 3) := by decide +kernel
theorem d_G_read_9 : decode b_G_read 9 = .ok (.iload_n 1, 1) := by decide +kernel
theorem d_G_read_10 : decode b_G_read 10 = .ok (.sipush 4096, 3) := by decide +kernel
theorem d_G_read_13 : decode b_G_read 13 = .ok (.isub, 1) := by decide +kernel
theorem d_G_read_14 : decode b_G_read 14 = .ok (.iaload, 1) := by decide +kernel
theorem d_G_read_15 : decode b_G_read 15 = .ok (.ireturn, 1) := by decide +kernel
theorem d_G_checkInObject_0 : decode b_G_checkInObject 0 = .ok (.iload_n 1, 1) := by decide +kernel
theorem d_G_checkInObject_1 : decode b_G_checkInObject 1 = .ok (.invokestatic 113, 3) := by decide +kernel
theorem d_G_checkInObject_4 : decode b_G_checkInObject 4 = .ok (.ifCond .ne 13, 3) := by decide +kernel
theorem d_G_checkInObject_7 : decode b_G_checkInObject 7 = .ok (.new 108, 3) := by decide +kernel
theorem d_G_checkInObject_10 : decode b_G_checkInObject 10 = .ok (.dup, 1) := by decide +kernel
theorem d_G_checkInObject_11 : decode b_G_checkInObject 11 = .ok (.ldc 116, 2) := by decide +kernel
theorem d_G_checkInObject_13 : decode b_G_checkInObject 13 = .ok (.invokespecial 112, 3) := by decide +kernel
theorem d_G_checkInObject_16 : decode b_G_checkInObject 16 = .ok (.athrow, 1) := by decide +kernel
theorem d_G_checkInObject_17 : decode b_G_checkInObject 17 = .ok (.aload_n 0, 1) := by decide +kernel
theorem d_G_checkInObject_18 : decode b_G_checkInObject 18 = .ok (.iload_n 1, 1) := by decide +kernel
theorem d_G_checkInObject_19 : decode b_G_checkInObject 19 = .ok (.invokevirtual 95, 3) := by decide +kernel
theorem d_G_checkInObject_22 : decode b_G_checkInObject 22 = .ok (.iconst (-1), 1) := by decide +kernel
theorem d_G_checkInObject_23 : decode b_G_checkInObject 23 = .ok (.if_icmp .ne 13, 3) := by decide +kernel
theorem d_G_checkInObject_26 : decode b_G_checkInObject 26 = .ok (.new 69, 3) := by decide +kernel
theorem d_G_checkInObject_29 : decode b_G_checkInObject 29 = .ok (.dup, 1) := by decide +kernel
theorem d_G_checkInObject_30 : decode b_G_checkInObject 30 = .ok (.ldc 118, 2) := by decide +kernel
theorem d_G_checkInObject_32 : decode b_G_checkInObject 32 = .ok (.invokespecial 73, 3) := by decide +kernel
theorem d_G_checkInObject_35 : decode b_G_checkInObject 35 = .ok (.athrow, 1) := by decide +kernel
theorem d_G_checkInObject_36 : decode b_G_checkInObject 36 = .ok (.return_, 1) := by decide +kernel
theorem d_G_write_0 : decode b_G_write 0 = .ok (.aload_n 0, 1) := by decide +kernel
theorem d_G_write_1 : decode b_G_write 1 = .ok (.iload_n 1, 1) := by decide +kernel
theorem d_G_write_2 : decode b_G_write 2 = .ok (.invokevirtual 92, 3) := by decide +kernel
theorem d_G_write_5 : decode b_G_write 5 = .ok (.aload_n 0, 1) := by decide +kernel
theorem d_G_write_6 : decode b_G_write 6 = .ok (.getfield 20, 3) := by decide +kernel
theorem d_G_write_9 : decode b_G_write 9 = .ok (.iload_n 1, 1) := by decide +kernel
theorem d_G_write_10 : decode b_G_write 10 = .ok (.sipush 4096, 3) := by decide +kernel
theorem d_G_write_13 : decode b_G_write 13 = .ok (.isub, 1) := by decide +kernel
theorem d_G_write_14 : decode b_G_write 14 = .ok (.iaload, 1) := by decide +kernel
theorem d_G_write_15 : decode b_G_write 15 = .ok (.istore_n 3, 1) := by decide +kernel
theorem d_G_write_16 : decode b_G_write 16 = .ok (.aload_n 0, 1) := by decide +kernel
theorem d_G_write_17 : decode b_G_write 17 = .ok (.getfield 20, 3) := by decide +kernel
theorem d_G_write_20 : decode b_G_write 20 = .ok (.iload_n 1, 1) := by decide +kernel
theorem d_G_write_21 : decode b_G_write 21 = .ok (.sipush 4096, 3) := by decide +kernel
theorem d_G_write_24 : decode b_G_write 24 = .ok (.isub, 1) := by decide +kernel
theorem d_G_write_25 : decode b_G_write 25 = .ok (.iload_n 2, 1) := by decide +kernel
theorem d_G_write_26 : decode b_G_write 26 = .ok (.iastore, 1) := by decide +kernel
theorem d_G_write_27 : decode b_G_write 27 = .ok (.iload_n 3, 1) := by decide +kernel
theorem d_G_write_28 : decode b_G_write 28 = .ok (.ireturn, 1) := by decide +kernel
end
section
/-! the instructions, by a program -/
theorem d_M_init_0 : decode b_M_init 0 = .ok (.aload_n 0, 1) := by decide +kernel
theorem d_M_init_1 : decode b_M_init 1 = .ok (.invokespecial 1, 3) := by decide +kernel
theorem d_M_init_4 : decode b_M_init 4 = .ok (.aload_n 0, 1) := by decide +kernel
theorem d_M_init_5 : decode b_M_init 5 = .ok (.bipush 8, 2) := by decide +kernel
theorem d_M_init_7 : decode b_M_init 7 = .ok (.newarray .int, 2) := by decide +kernel
theorem d_M_init_9 : decode b_M_init 9 = .ok (.putfield 7, 3) := by decide +kernel
theorem d_M_init_12 : decode b_M_init 12 = .ok (.aload_n 0, 1) := by decide +kernel
theorem d_M_init_13 : decode b_M_init 13 = .ok (.sipush 512, 3) := by decide +kernel
theorem d_M_init_16 : decode b_M_init 16 = .ok (.newarray .int, 2) := by decide +kernel
theorem d_M_init_18 : decode b_M_init 18 = .ok (.putfield 13, 3) := by decide +kernel
theorem d_M_init_21 : decode b_M_init 21 = .ok (.aload_n 0, 1) := by decide +kernel
theorem d_M_init_22 : decode b_M_init 22 = .ok (.sipush 512, 3) := by decide +kernel
theorem d_M_init_25 : decode b_M_init 25 = .ok (.newarray .int, 2) := by decide +kernel
theorem d_M_init_27 : decode b_M_init 27 = .ok (.putfield 16, 3) := by decide +kernel
theorem d_M_init_30 : decode b_M_init 30 = .ok (.aload_n 0, 1) := by decide +kernel
theorem d_M_init_31 : decode b_M_init 31 = .ok (.sipush 512, 3) := by decide +kernel
theorem d_M_init_34 : decode b_M_init 34 = .ok (.newarray .int, 2) := by decide +kernel
theorem d_M_init_36 : decode b_M_init 36 = .ok (.putfield 19, 3) := by decide +kernel
theorem d_M_init_39 : decode b_M_init 39 = .ok (.aload_n 0, 1) := by decide +kernel
theorem d_M_init_40 : decode b_M_init 40 = .ok (.sipush 512, 3) := by decide +kernel
theorem d_M_init_43 : decode b_M_init 43 = .ok (.newarray .boolean, 2) := by decide +kernel
theorem d_M_init_45 : decode b_M_init 45 = .ok (.putfield 22, 3) := by decide +kernel
theorem d_M_init_48 : decode b_M_init 48 = .ok (.aload_n 0, 1) := by decide +kernel
theorem d_M_init_49 : decode b_M_init 49 = .ok (.sipush 512, 3) := by decide +kernel
theorem d_M_init_52 : decode b_M_init 52 = .ok (.newarray .boolean, 2) := by decide +kernel
theorem d_M_init_54 : decode b_M_init 54 = .ok (.putfield 26, 3) := by decide +kernel
theorem d_M_init_57 : decode b_M_init 57 = .ok (.aload_n 0, 1) := by decide +kernel
theorem d_M_init_58 : decode b_M_init 58 = .ok (.bipush 16, 2) := by decide +kernel
theorem d_M_init_60 : decode b_M_init 60 = .ok (.newarray .int, 2) := by decide +kernel
theorem d_M_init_62 : decode b_M_init 62 = .ok (.putfield 29, 3) := by decide +kernel
theorem d_M_init_65 : decode b_M_init 65 = .ok (.aload_n 0, 1) := by decide +kernel
theorem d_M_init_66 : decode b_M_init 66 = .ok (.bipush 16, 2) := by decide +kernel
theorem d_M_init_68 : decode b_M_init 68 = .ok (.newarray .boolean, 2) := by decide +kernel
theorem d_M_init_70 : decode b_M_init 70 = .ok (.putfield 32, 3) := by decide +kernel
theorem d_M_init_73 : decode b_M_init 73 = .ok (.return_, 1) := by decide +kernel
theorem d_M_thrown_0 : decode b_M_thrown 0 = .ok (.aload_n 0, 1) := by decide +kernel
theorem d_M_thrown_1 : decode b_M_thrown 1 = .ok (.getfield 35, 3) := by decide +kernel
theorem d_M_thrown_4 : decode b_M_thrown 4 = .ok (.ireturn, 1) := by decide +kernel
theorem d_M_allocate_0 : decode b_M_allocate 0 = .ok (.aload_n 0, 1) := by decide +kernel
theorem d_M_allocate_1 : decode b_M_allocate 1 = .ok (.iload_n 1, 1) := by decide +kernel
theorem d_M_allocate_2 : decode b_M_allocate 2 = .ok (.iconst 1, 1) := by decide +kernel
theorem d_M_allocate_3 : decode b_M_allocate 3 = .ok (.if_icmp .lt 10, 3) := by decide +kernel
theorem d_M_allocate_6 : decode b_M_allocate 6 = .ok (.iload_n 1, 1) := by decide +kernel
theorem d_M_allocate_7 : decode b_M_allocate 7 = .ok (.sipush 128, 3) := by decide +kernel
theorem d_M_allocate_10 : decode b_M_allocate 10 = .ok (.if_icmp .le 7, 3) := by decide +kernel
theorem d_M_allocate_13 : decode b_M_allocate 13 = .ok (.iconst 1, 1) := by decide +kernel
theorem d_M_allocate_14 : decode b_M_allocate 14 = .ok (.goto 4, 3) := by decide +kernel
theorem d_M_allocate_17 : decode b_M_allocate 17 = .ok (.iconst 0, 1) := by decide +kernel
theorem d_M_allocate_18 : decode b_M_allocate 18 = .ok (.putfield 35, 3) := by decide +kernel
theorem d_M_allocate_21 : decode b_M_allocate 21 = .ok (.aload_n 0, 1) := by decide +kernel
theorem d_M_allocate_22 : decode b_M_allocate 22 = .ok (.getfield 35, 3) := by decide +kernel
theorem d_M_allocate_25 : decode b_M_allocate 25 = .ok (.ifCond .le 5, 3) := by decide +kernel
theorem d_M_allocate_28 : decode b_M_allocate 28 = .ok (.iconst 0, 1) := by decide +kernel
theorem d_M_allocate_29 : decode b_M_allocate 29 = .ok (.ireturn, 1) := by decide +kernel
theorem d_M_allocate_30 : decode b_M_allocate 30 = .ok (.aload_n 0, 1) := by decide +kernel
theorem d_M_allocate_31 : decode b_M_allocate 31 = .ok (.iload_n 1, 1) := by decide +kernel
theorem d_M_allocate_32 : decode b_M_allocate 32 = .ok (.iconst 0, 1) := by decide +kernel
theorem d_M_allocate_33 : decode b_M_allocate 33 = .ok (.invokevirtual 81, 3) := by decide +kernel
theorem d_M_allocate_36 : decode b_M_allocate 36 = .ok (.istore_n 3, 1) := by decide +kernel
theorem d_M_allocate_37 : decode b_M_allocate 37 = .ok (.iload_n 3, 1) := by decide +kernel
theorem d_M_allocate_38 : decode b_M_allocate 38 = .ok (.ifCond .ge 29, 3) := by decide +kernel
theorem d_M_allocate_41 : decode b_M_allocate 41 = .ok (.aload_n 0, 1) := by decide +kernel
theorem d_M_allocate_42 : decode b_M_allocate 42 = .ok (.invokevirtual 84, 3) := by decide +kernel
theorem d_M_allocate_45 : decode b_M_allocate 45 = .ok (.aload_n 0, 1) := by decide +kernel
theorem d_M_allocate_46 : decode b_M_allocate 46 = .ok (.iload_n 1, 1) := by decide +kernel
theorem d_M_allocate_47 : decode b_M_allocate 47 = .ok (.iconst 0, 1) := by decide +kernel
theorem d_M_allocate_48 : decode b_M_allocate 48 = .ok (.invokevirtual 81, 3) := by decide +kernel
theorem d_M_allocate_51 : decode b_M_allocate 51 = .ok (.istore_n 3, 1) := by decide +kernel
theorem d_M_allocate_52 : decode b_M_allocate 52 = .ok (.iload_n 3, 1) := by decide +kernel
theorem d_M_allocate_53 : decode b_M_allocate 53 = .ok (.ifCond .ge 12, 3) := by decide +kernel
theorem d_M_allocate_56 : decode b_M_allocate 56 = .ok (.aload_n 0, 1) := by decide +kernel
theorem d_M_allocate_57 : decode b_M_allocate 57 = .ok (.iload_n 1, 1) := by decide +kernel
theorem d_M_allocate_58 : decode b_M_allocate 58 = .ok (.iconst 1, 1) := by decide +kernel
theorem d_M_allocate_59 : decode b_M_allocate 59 = .ok (.invokevirtual 81, 3) := by decide +kernel
theorem d_M_allocate_62 : decode b_M_allocate 62 = .ok (.goto 4, 3) := by decide +kernel
theorem d_M_allocate_65 : decode b_M_allocate 65 = .ok (.iload_n 3, 1) := by decide +kernel
theorem d_M_allocate_66 : decode b_M_allocate 66 = .ok (.istore_n 3, 1) := by decide +kernel
theorem d_M_allocate_67 : decode b_M_allocate 67 = .ok (.iload_n 3, 1) := by decide +kernel
theorem d_M_allocate_68 : decode b_M_allocate 68 = .ok (.ifCond .ge 10, 3) := by decide +kernel
theorem d_M_allocate_71 : decode b_M_allocate 71 = .ok (.aload_n 0, 1) := by decide +kernel
theorem d_M_allocate_72 : decode b_M_allocate 72 = .ok (.iconst 2, 1) := by decide +kernel
theorem d_M_allocate_73 : decode b_M_allocate 73 = .ok (.putfield 35, 3) := by decide +kernel
theorem d_M_allocate_76 : decode b_M_allocate 76 = .ok (.iconst 0, 1) := by decide +kernel
theorem d_M_allocate_77 : decode b_M_allocate 77 = .ok (.ireturn, 1) := by decide +kernel
theorem d_M_allocate_78 : decode b_M_allocate 78 = .ok (.aload_n 0, 1) := by decide +kernel
theorem d_M_allocate_79 : decode b_M_allocate 79 = .ok (.iload_n 3, 1) := by decide +kernel
theorem d_M_allocate_80 : decode b_M_allocate 80 = .ok (.iload_n 1, 1) := by decide +kernel
theorem d_M_allocate_81 : decode b_M_allocate 81 = .ok (.iload_n 2, 1) := by decide +kernel
theorem d_M_allocate_82 : decode b_M_allocate 82 = .ok (.invokevirtual 87, 3) := by decide +kernel
theorem d_M_allocate_85 : decode b_M_allocate 85 = .ok (.sipush 4096, 3) := by decide +kernel
theorem d_M_allocate_88 : decode b_M_allocate 88 = .ok (.iload_n 3, 1) := by decide +kernel
theorem d_M_allocate_89 : decode b_M_allocate 89 = .ok (.iadd, 1) := by decide +kernel
theorem d_M_allocate_90 : decode b_M_allocate 90 = .ok (.ireturn, 1) := by decide +kernel
theorem d_M_room_0 : decode b_M_room 0 = .ok (.iload_n 1, 1) := by decide +kernel
theorem d_M_room_1 : decode b_M_room 1 = .ok (.bipush 16, 2) := by decide +kernel
theorem d_M_room_3 : decode b_M_room 3 = .ok (.if_icmp .gt 15, 3) := by decide +kernel
theorem d_M_room_6 : decode b_M_room 6 = .ok (.aload_n 0, 1) := by decide +kernel
theorem d_M_room_7 : decode b_M_room 7 = .ok (.iload_n 1, 1) := by decide +kernel
theorem d_M_room_8 : decode b_M_room 8 = .ok (.invokestatic 71, 3) := by decide +kernel
theorem d_M_room_11 : decode b_M_room 11 = .ok (.iload_n 2, 1) := by decide +kernel
theorem d_M_room_12 : decode b_M_room 12 = .ok (.invokevirtual 74, 3) := by decide +kernel
theorem d_M_room_15 : decode b_M_room 15 = .ok (.goto 15, 3) := by decide +kernel
theorem d_M_room_18 : decode b_M_room 18 = .ok (.aload_n 0, 1) := by decide +kernel
theorem d_M_room_19 : decode b_M_room 19 = .ok (.iload_n 1, 1) := by decide +kernel
theorem d_M_room_20 : decode b_M_room 20 = .ok (.bipush 31, 2) := by decide +kernel
theorem d_M_room_22 : decode b_M_room 22 = .ok (.iadd, 1) := by decide +kernel
theorem d_M_room_23 : decode b_M_room 23 = .ok (.bipush 32, 2) := by decide +kernel
theorem d_M_room_25 : decode b_M_room 25 = .ok (.idiv, 1) := by decide +kernel
theorem d_M_room_26 : decode b_M_room 26 = .ok (.iload_n 2, 1) := by decide +kernel
theorem d_M_room_27 : decode b_M_room 27 = .ok (.invokevirtual 78, 3) := by decide +kernel
theorem d_M_room_30 : decode b_M_room 30 = .ok (.ireturn, 1) := by decide +kernel
theorem d_M_sizeFor_0 : decode b_M_sizeFor 0 = .ok (.iload_n 0, 1) := by decide +kernel
theorem d_M_sizeFor_1 : decode b_M_sizeFor 1 = .ok (.iconst 2, 1) := by decide +kernel
theorem d_M_sizeFor_2 : decode b_M_sizeFor 2 = .ok (.if_icmp .gt 7, 3) := by decide +kernel
theorem d_M_sizeFor_5 : decode b_M_sizeFor 5 = .ok (.iconst 2, 1) := by decide +kernel
theorem d_M_sizeFor_6 : decode b_M_sizeFor 6 = .ok (.goto 25, 3) := by decide +kernel
theorem d_M_sizeFor_9 : decode b_M_sizeFor 9 = .ok (.iload_n 0, 1) := by decide +kernel
theorem d_M_sizeFor_10 : decode b_M_sizeFor 10 = .ok (.iconst 4, 1) := by decide +kernel
theorem d_M_sizeFor_11 : decode b_M_sizeFor 11 = .ok (.if_icmp .gt 7, 3) := by decide +kernel
theorem d_M_sizeFor_14 : decode b_M_sizeFor 14 = .ok (.iconst 4, 1) := by decide +kernel
theorem d_M_sizeFor_15 : decode b_M_sizeFor 15 = .ok (.goto 16, 3) := by decide +kernel
theorem d_M_sizeFor_18 : decode b_M_sizeFor 18 = .ok (.iload_n 0, 1) := by decide +kernel
theorem d_M_sizeFor_19 : decode b_M_sizeFor 19 = .ok (.bipush 8, 2) := by decide +kernel
theorem d_M_sizeFor_21 : decode b_M_sizeFor 21 = .ok (.if_icmp .gt 8, 3) := by decide +kernel
theorem d_M_sizeFor_24 : decode b_M_sizeFor 24 = .ok (.bipush 8, 2) := by decide +kernel
theorem d_M_sizeFor_26 : decode b_M_sizeFor 26 = .ok (.goto 5, 3) := by decide +kernel
theorem d_M_sizeFor_29 : decode b_M_sizeFor 29 = .ok (.bipush 16, 2) := by decide +kernel
theorem d_M_sizeFor_31 : decode b_M_sizeFor 31 = .ok (.ireturn, 1) := by decide +kernel
theorem d_M_smallRoom_0 : decode b_M_smallRoom 0 = .ok (.iconst 0, 1) := by decide +kernel
theorem d_M_smallRoom_1 : decode b_M_smallRoom 1 = .ok (.istore_n 3, 1) := by decide +kernel
theorem d_M_smallRoom_2 : decode b_M_smallRoom 2 = .ok (.iload_n 3, 1) := by decide +kernel
theorem d_M_smallRoom_3 : decode b_M_smallRoom 3 = .ok (.sipush 512, 3) := by decide +kernel
theorem d_M_smallRoom_6 : decode b_M_smallRoom 6 = .ok (.if_icmp .ge 39, 3) := by decide +kernel
theorem d_M_smallRoom_9 : decode b_M_smallRoom 9 = .ok (.aload_n 0, 1) := by decide +kernel
theorem d_M_smallRoom_10 : decode b_M_smallRoom 10 = .ok (.getfield 29, 3) := by decide +kernel
theorem d_M_smallRoom_13 : decode b_M_smallRoom 13 = .ok (.iload_n 3, 1) := by decide +kernel
theorem d_M_smallRoom_14 : decode b_M_smallRoom 14 = .ok (.bipush 32, 2) := by decide +kernel
theorem d_M_smallRoom_16 : decode b_M_smallRoom 16 = .ok (.idiv, 1) := by decide +kernel
theorem d_M_smallRoom_17 : decode b_M_smallRoom 17 = .ok (.iaload, 1) := by decide +kernel
theorem d_M_smallRoom_18 : decode b_M_smallRoom 18 = .ok (.iload_n 1, 1) := by decide +kernel
theorem d_M_smallRoom_19 : decode b_M_smallRoom 19 = .ok (.if_icmp .ne 20, 3) := by decide +kernel
theorem d_M_smallRoom_22 : decode b_M_smallRoom 22 = .ok (.iload_n 3, 1) := by decide +kernel
theorem d_M_smallRoom_23 : decode b_M_smallRoom 23 = .ok (.iload_n 1, 1) := by decide +kernel
theorem d_M_smallRoom_24 : decode b_M_smallRoom 24 = .ok (.irem, 1) := by decide +kernel
theorem d_M_smallRoom_25 : decode b_M_smallRoom 25 = .ok (.ifCond .ne 14, 3) := by decide +kernel
theorem d_M_smallRoom_28 : decode b_M_smallRoom 28 = .ok (.aload_n 0, 1) := by decide +kernel
theorem d_M_smallRoom_29 : decode b_M_smallRoom 29 = .ok (.getfield 16, 3) := by decide +kernel
theorem d_M_smallRoom_32 : decode b_M_smallRoom 32 = .ok (.iload_n 3, 1) := by decide +kernel
theorem d_M_smallRoom_33 : decode b_M_smallRoom 33 = .ok (.iaload, 1) := by decide +kernel
theorem d_M_smallRoom_34 : decode b_M_smallRoom 34 = .ok (.ifCond .ne 5, 3) := by decide +kernel
theorem d_M_smallRoom_37 : decode b_M_smallRoom 37 = .ok (.iload_n 3, 1) := by decide +kernel
theorem d_M_smallRoom_38 : decode b_M_smallRoom 38 = .ok (.ireturn, 1) := by decide +kernel
theorem d_M_smallRoom_39 : decode b_M_smallRoom 39 = .ok (.iinc 3 2, 3) := by decide +kernel
theorem d_M_smallRoom_42 : decode b_M_smallRoom 42 = .ok (.goto (-40), 3) := by decide +kernel
theorem d_M_smallRoom_45 : decode b_M_smallRoom 45 = .ok (.iconst 0, 1) := by decide +kernel
theorem d_M_smallRoom_46 : decode b_M_smallRoom 46 = .ok (.istore_n 3, 1) := by decide +kernel
theorem d_M_smallRoom_47 : decode b_M_smallRoom 47 = .ok (.iload_n 3, 1) := by decide +kernel
theorem d_M_smallRoom_48 : decode b_M_smallRoom 48 = .ok (.bipush 16, 2) := by decide +kernel
theorem d_M_smallRoom_50 : decode b_M_smallRoom 50 = .ok (.if_icmp .ge 23, 3) := by decide +kernel
theorem d_M_smallRoom_53 : decode b_M_smallRoom 53 = .ok (.aload_n 0, 1) := by decide +kernel
theorem d_M_smallRoom_54 : decode b_M_smallRoom 54 = .ok (.iload_n 3, 1) := by decide +kernel
theorem d_M_smallRoom_55 : decode b_M_smallRoom 55 = .ok (.iload_n 2, 1) := by decide +kernel
theorem d_M_smallRoom_56 : decode b_M_smallRoom 56 = .ok (.invokevirtual 67, 3) := by decide +kernel
theorem d_M_smallRoom_59 : decode b_M_smallRoom 59 = .ok (.ifCond .eq 8, 3) := by decide +kernel
theorem d_M_smallRoom_62 : decode b_M_smallRoom 62 = .ok (.bipush 32, 2) := by decide +kernel
theorem d_M_smallRoom_64 : decode b_M_smallRoom 64 = .ok (.iload_n 3, 1) := by decide +kernel
theorem d_M_smallRoom_65 : decode b_M_smallRoom 65 = .ok (.imul, 1) := by decide +kernel
theorem d_M_smallRoom_66 : decode b_M_smallRoom 66 = .ok (.ireturn, 1) := by decide +kernel
theorem d_M_smallRoom_67 : decode b_M_smallRoom 67 = .ok (.iinc 3 1, 3) := by decide +kernel
theorem d_M_smallRoom_70 : decode b_M_smallRoom 70 = .ok (.goto (-23), 3) := by decide +kernel
theorem d_M_smallRoom_73 : decode b_M_smallRoom 73 = .ok (.iconst (-1), 1) := by decide +kernel
theorem d_M_smallRoom_74 : decode b_M_smallRoom 74 = .ok (.ireturn, 1) := by decide +kernel
theorem d_M_isOpen_0 : decode b_M_isOpen 0 = .ok (.iload_n 1, 1) := by decide +kernel
theorem d_M_isOpen_1 : decode b_M_isOpen 1 = .ok (.bipush 16, 2) := by decide +kernel
theorem d_M_isOpen_3 : decode b_M_isOpen 3 = .ok (.if_icmp .ge 29, 3) := by decide +kernel
theorem d_M_isOpen_6 : decode b_M_isOpen 6 = .ok (.aload_n 0, 1) := by decide +kernel
theorem d_M_isOpen_7 : decode b_M_isOpen 7 = .ok (.getfield 29, 3) := by decide +kernel
theorem d_M_isOpen_10 : decode b_M_isOpen 10 = .ok (.iload_n 1, 1) := by decide +kernel
theorem d_M_isOpen_11 : decode b_M_isOpen 11 = .ok (.iaload, 1) := by decide +kernel
theorem d_M_isOpen_12 : decode b_M_isOpen 12 = .ok (.ifCond .ne 20, 3) := by decide +kernel
theorem d_M_isOpen_15 : decode b_M_isOpen 15 = .ok (.iload_n 2, 1) := by decide +kernel
theorem d_M_isOpen_16 : decode b_M_isOpen 16 = .ok (.ifCond .ne 12, 3) := by decide +kernel
theorem d_M_isOpen_19 : decode b_M_isOpen 19 = .ok (.aload_n 0, 1) := by decide +kernel
theorem d_M_isOpen_20 : decode b_M_isOpen 20 = .ok (.getfield 32, 3) := by decide +kernel
theorem d_M_isOpen_23 : decode b_M_isOpen 23 = .ok (.iload_n 1, 1) := by decide +kernel
theorem d_M_isOpen_24 : decode b_M_isOpen 24 = .ok (.baload, 1) := by decide +kernel
theorem d_M_isOpen_25 : decode b_M_isOpen 25 = .ok (.ifCond .ne 7, 3) := by decide +kernel
theorem d_M_isOpen_28 : decode b_M_isOpen 28 = .ok (.iconst 1, 1) := by decide +kernel
theorem d_M_isOpen_29 : decode b_M_isOpen 29 = .ok (.goto 4, 3) := by decide +kernel
theorem d_M_isOpen_32 : decode b_M_isOpen 32 = .ok (.iconst 0, 1) := by decide +kernel
theorem d_M_isOpen_33 : decode b_M_isOpen 33 = .ok (.ireturn, 1) := by decide +kernel
theorem d_M_largeRoom_0 : decode b_M_largeRoom 0 = .ok (.iconst 0, 1) := by decide +kernel
theorem d_M_largeRoom_1 : decode b_M_largeRoom 1 = .ok (.istore_n 3, 1) := by decide +kernel
theorem d_M_largeRoom_2 : decode b_M_largeRoom 2 = .ok (.iload_n 3, 1) := by decide +kernel
theorem d_M_largeRoom_3 : decode b_M_largeRoom 3 = .ok (.iload_n 1, 1) := by decide +kernel
theorem d_M_largeRoom_4 : decode b_M_largeRoom 4 = .ok (.iadd, 1) := by decide +kernel
theorem d_M_largeRoom_5 : decode b_M_largeRoom 5 = .ok (.bipush 16, 2) := by decide +kernel
theorem d_M_largeRoom_7 : decode b_M_largeRoom 7 = .ok (.if_icmp .gt 61, 3) := by decide +kernel
theorem d_M_largeRoom_10 : decode b_M_largeRoom 10 = .ok (.iconst 1, 1) := by decide +kernel
theorem d_M_largeRoom_11 : decode b_M_largeRoom 11 = .ok (.istore 4, 2) := by decide +kernel
theorem d_M_largeRoom_13 : decode b_M_largeRoom 13 = .ok (.iconst 0, 1) := by decide +kernel
theorem d_M_largeRoom_14 : decode b_M_largeRoom 14 = .ok (.istore 5, 2) := by decide +kernel
theorem d_M_largeRoom_16 : decode b_M_largeRoom 16 = .ok (.iload 5, 2) := by decide +kernel
theorem d_M_largeRoom_18 : decode b_M_largeRoom 18 = .ok (.iload_n 1, 1) := by decide +kernel
theorem d_M_largeRoom_19 : decode b_M_largeRoom 19 = .ok (.if_icmp .ge 33, 3) := by decide +kernel
theorem d_M_largeRoom_22 : decode b_M_largeRoom 22 = .ok (.iload 4, 2) := by decide +kernel
theorem d_M_largeRoom_24 : decode b_M_largeRoom 24 = .ok (.ifCond .eq 19, 3) := by decide +kernel
theorem d_M_largeRoom_27 : decode b_M_largeRoom 27 = .ok (.aload_n 0, 1) := by decide +kernel
theorem d_M_largeRoom_28 : decode b_M_largeRoom 28 = .ok (.iload_n 3, 1) := by decide +kernel
theorem d_M_largeRoom_29 : decode b_M_largeRoom 29 = .ok (.iload 5, 2) := by decide +kernel
theorem d_M_largeRoom_31 : decode b_M_largeRoom 31 = .ok (.iadd, 1) := by decide +kernel
theorem d_M_largeRoom_32 : decode b_M_largeRoom 32 = .ok (.iload_n 2, 1) := by decide +kernel
theorem d_M_largeRoom_33 : decode b_M_largeRoom 33 = .ok (.invokevirtual 67, 3) := by decide +kernel
theorem d_M_largeRoom_36 : decode b_M_largeRoom 36 = .ok (.ifCond .eq 7, 3) := by decide +kernel
theorem d_M_largeRoom_39 : decode b_M_largeRoom 39 = .ok (.iconst 1, 1) := by decide +kernel
theorem d_M_largeRoom_40 : decode b_M_largeRoom 40 = .ok (.goto 4, 3) := by decide +kernel
theorem d_M_largeRoom_43 : decode b_M_largeRoom 43 = .ok (.iconst 0, 1) := by decide +kernel
theorem d_M_largeRoom_44 : decode b_M_largeRoom 44 = .ok (.istore 4, 2) := by decide +kernel
theorem d_M_largeRoom_46 : decode b_M_largeRoom 46 = .ok (.iinc 5 1, 3) := by decide +kernel
theorem d_M_largeRoom_49 : decode b_M_largeRoom 49 = .ok (.goto (-33), 3) := by decide +kernel
theorem d_M_largeRoom_52 : decode b_M_largeRoom 52 = .ok (.iload 4, 2) := by decide +kernel
theorem d_M_largeRoom_54 : decode b_M_largeRoom 54 = .ok (.ifCond .eq 8, 3) := by decide +kernel
theorem d_M_largeRoom_57 : decode b_M_largeRoom 57 = .ok (.bipush 32, 2) := by decide +kernel
theorem d_M_largeRoom_59 : decode b_M_largeRoom 59 = .ok (.iload_n 3, 1) := by decide +kernel
theorem d_M_largeRoom_60 : decode b_M_largeRoom 60 = .ok (.imul, 1) := by decide +kernel
theorem d_M_largeRoom_61 : decode b_M_largeRoom 61 = .ok (.ireturn, 1) := by decide +kernel
theorem d_M_largeRoom_62 : decode b_M_largeRoom 62 = .ok (.iinc 3 1, 3) := by decide +kernel
theorem d_M_largeRoom_65 : decode b_M_largeRoom 65 = .ok (.goto (-63), 3) := by decide +kernel
theorem d_M_largeRoom_68 : decode b_M_largeRoom 68 = .ok (.iconst (-1), 1) := by decide +kernel
theorem d_M_largeRoom_69 : decode b_M_largeRoom 69 = .ok (.ireturn, 1) := by decide +kernel
theorem d_M_gather_0 : decode b_M_gather 0 = .ok (.aload_n 0, 1) := by decide +kernel
theorem d_M_gather_1 : decode b_M_gather 1 = .ok (.dup, 1) := by decide +kernel
theorem d_M_gather_2 : decode b_M_gather 2 = .ok (.getfield 53, 3) := by decide +kernel
theorem d_M_gather_5 : decode b_M_gather 5 = .ok (.iconst 1, 1) := by decide +kernel
theorem d_M_gather_6 : decode b_M_gather 6 = .ok (.iadd, 1) := by decide +kernel
theorem d_M_gather_7 : decode b_M_gather 7 = .ok (.putfield 53, 3) := by decide +kernel
theorem d_M_gather_10 : decode b_M_gather 10 = .ok (.aload_n 0, 1) := by decide +kernel
theorem d_M_gather_11 : decode b_M_gather 11 = .ok (.iconst 0, 1) := by decide +kernel
theorem d_M_gather_12 : decode b_M_gather 12 = .ok (.putfield 50, 3) := by decide +kernel
theorem d_M_gather_15 : decode b_M_gather 15 = .ok (.iconst 0, 1) := by decide +kernel
theorem d_M_gather_16 : decode b_M_gather 16 = .ok (.istore_n 1, 1) := by decide +kernel
theorem d_M_gather_17 : decode b_M_gather 17 = .ok (.iload_n 1, 1) := by decide +kernel
theorem d_M_gather_18 : decode b_M_gather 18 = .ok (.bipush 16, 2) := by decide +kernel
theorem d_M_gather_20 : decode b_M_gather 20 = .ok (.if_icmp .ge 16, 3) := by decide +kernel
theorem d_M_gather_23 : decode b_M_gather 23 = .ok (.aload_n 0, 1) := by decide +kernel
theorem d_M_gather_24 : decode b_M_gather 24 = .ok (.getfield 32, 3) := by decide +kernel
theorem d_M_gather_27 : decode b_M_gather 27 = .ok (.iload_n 1, 1) := by decide +kernel
theorem d_M_gather_28 : decode b_M_gather 28 = .ok (.iconst 0, 1) := by decide +kernel
theorem d_M_gather_29 : decode b_M_gather 29 = .ok (.bastore, 1) := by decide +kernel
theorem d_M_gather_30 : decode b_M_gather 30 = .ok (.iinc 1 1, 3) := by decide +kernel
theorem d_M_gather_33 : decode b_M_gather 33 = .ok (.goto (-16), 3) := by decide +kernel
theorem d_M_gather_36 : decode b_M_gather 36 = .ok (.iconst 0, 1) := by decide +kernel
theorem d_M_gather_37 : decode b_M_gather 37 = .ok (.istore_n 1, 1) := by decide +kernel
theorem d_M_gather_38 : decode b_M_gather 38 = .ok (.iload_n 1, 1) := by decide +kernel
theorem d_M_gather_39 : decode b_M_gather 39 = .ok (.sipush 512, 3) := by decide +kernel
theorem d_M_gather_42 : decode b_M_gather 42 = .ok (.if_icmp .ge 16, 3) := by decide +kernel
theorem d_M_gather_45 : decode b_M_gather 45 = .ok (.aload_n 0, 1) := by decide +kernel
theorem d_M_gather_46 : decode b_M_gather 46 = .ok (.getfield 26, 3) := by decide +kernel
theorem d_M_gather_49 : decode b_M_gather 49 = .ok (.iload_n 1, 1) := by decide +kernel
theorem d_M_gather_50 : decode b_M_gather 50 = .ok (.iconst 0, 1) := by decide +kernel
theorem d_M_gather_51 : decode b_M_gather 51 = .ok (.bastore, 1) := by decide +kernel
theorem d_M_gather_52 : decode b_M_gather 52 = .ok (.iinc 1 1, 3) := by decide +kernel
theorem d_M_gather_55 : decode b_M_gather 55 = .ok (.goto (-17), 3) := by decide +kernel
theorem d_M_gather_58 : decode b_M_gather 58 = .ok (.iconst 1, 1) := by decide +kernel
theorem d_M_gather_59 : decode b_M_gather 59 = .ok (.istore_n 1, 1) := by decide +kernel
theorem d_M_gather_60 : decode b_M_gather 60 = .ok (.iload_n 1, 1) := by decide +kernel
theorem d_M_gather_61 : decode b_M_gather 61 = .ok (.ifCond .eq 11, 3) := by decide +kernel
theorem d_M_gather_64 : decode b_M_gather 64 = .ok (.aload_n 0, 1) := by decide +kernel
theorem d_M_gather_65 : decode b_M_gather 65 = .ok (.invokevirtual 56, 3) := by decide +kernel
theorem d_M_gather_68 : decode b_M_gather 68 = .ok (.istore_n 1, 1) := by decide +kernel
theorem d_M_gather_69 : decode b_M_gather 69 = .ok (.goto (-9), 3) := by decide +kernel
theorem d_M_gather_72 : decode b_M_gather 72 = .ok (.iconst 0, 1) := by decide +kernel
theorem d_M_gather_73 : decode b_M_gather 73 = .ok (.istore_n 2, 1) := by decide +kernel
theorem d_M_gather_74 : decode b_M_gather 74 = .ok (.iload_n 2, 1) := by decide +kernel
theorem d_M_gather_75 : decode b_M_gather 75 = .ok (.sipush 512, 3) := by decide +kernel
theorem d_M_gather_78 : decode b_M_gather 78 = .ok (.if_icmp .ge 35, 3) := by decide +kernel
theorem d_M_gather_81 : decode b_M_gather 81 = .ok (.aload_n 0, 1) := by decide +kernel
theorem d_M_gather_82 : decode b_M_gather 82 = .ok (.getfield 16, 3) := by decide +kernel
theorem d_M_gather_85 : decode b_M_gather 85 = .ok (.iload_n 2, 1) := by decide +kernel
theorem d_M_gather_86 : decode b_M_gather 86 = .ok (.iaload, 1) := by decide +kernel
theorem d_M_gather_87 : decode b_M_gather 87 = .ok (.iload_n 2, 1) := by decide +kernel
theorem d_M_gather_88 : decode b_M_gather 88 = .ok (.iconst 1, 1) := by decide +kernel
theorem d_M_gather_89 : decode b_M_gather 89 = .ok (.iadd, 1) := by decide +kernel
theorem d_M_gather_90 : decode b_M_gather 90 = .ok (.if_icmp .ne 17, 3) := by decide +kernel
theorem d_M_gather_93 : decode b_M_gather 93 = .ok (.aload_n 0, 1) := by decide +kernel
theorem d_M_gather_94 : decode b_M_gather 94 = .ok (.getfield 26, 3) := by decide +kernel
theorem d_M_gather_97 : decode b_M_gather 97 = .ok (.iload_n 2, 1) := by decide +kernel
theorem d_M_gather_98 : decode b_M_gather 98 = .ok (.baload, 1) := by decide +kernel
theorem d_M_gather_99 : decode b_M_gather 99 = .ok (.ifCond .ne 8, 3) := by decide +kernel
theorem d_M_gather_102 : decode b_M_gather 102 = .ok (.aload_n 0, 1) := by decide +kernel
theorem d_M_gather_103 : decode b_M_gather 103 = .ok (.iload_n 2, 1) := by decide +kernel
theorem d_M_gather_104 : decode b_M_gather 104 = .ok (.invokevirtual 60, 3) := by decide +kernel
theorem d_M_gather_107 : decode b_M_gather 107 = .ok (.iinc 2 1, 3) := by decide +kernel
theorem d_M_gather_110 : decode b_M_gather 110 = .ok (.goto (-36), 3) := by decide +kernel
theorem d_M_gather_113 : decode b_M_gather 113 = .ok (.iconst 0, 1) := by decide +kernel
theorem d_M_gather_114 : decode b_M_gather 114 = .ok (.istore_n 2, 1) := by decide +kernel
theorem d_M_gather_115 : decode b_M_gather 115 = .ok (.iload_n 2, 1) := by decide +kernel
theorem d_M_gather_116 : decode b_M_gather 116 = .ok (.bipush 16, 2) := by decide +kernel
theorem d_M_gather_118 : decode b_M_gather 118 = .ok (.if_icmp .ge 44, 3) := by decide +kernel
theorem d_M_gather_121 : decode b_M_gather 121 = .ok (.aload_n 0, 1) := by decide +kernel
theorem d_M_gather_122 : decode b_M_gather 122 = .ok (.getfield 29, 3) := by decide +kernel
theorem d_M_gather_125 : decode b_M_gather 125 = .ok (.iload_n 2, 1) := by decide +kernel
theorem d_M_gather_126 : decode b_M_gather 126 = .ok (.aload_n 0, 1) := by decide +kernel
theorem d_M_gather_127 : decode b_M_gather 127 = .ok (.getfield 29, 3) := by decide +kernel
theorem d_M_gather_130 : decode b_M_gather 130 = .ok (.iload_n 2, 1) := by decide +kernel
theorem d_M_gather_131 : decode b_M_gather 131 = .ok (.iaload, 1) := by decide +kernel
theorem d_M_gather_132 : decode b_M_gather 132 = .ok (.bipush 32, 2) := by decide +kernel
theorem d_M_gather_134 : decode b_M_gather 134 = .ok (.if_icmp .ge 15, 3) := by decide +kernel
theorem d_M_gather_137 : decode b_M_gather 137 = .ok (.aload_n 0, 1) := by decide +kernel
theorem d_M_gather_138 : decode b_M_gather 138 = .ok (.iload_n 2, 1) := by decide +kernel
theorem d_M_gather_139 : decode b_M_gather 139 = .ok (.invokevirtual 64, 3) := by decide +kernel
theorem d_M_gather_142 : decode b_M_gather 142 = .ok (.ifCond .eq 7, 3) := by decide +kernel
theorem d_M_gather_145 : decode b_M_gather 145 = .ok (.iconst 0, 1) := by decide +kernel
theorem d_M_gather_146 : decode b_M_gather 146 = .ok (.goto 9, 3) := by decide +kernel
theorem d_M_gather_149 : decode b_M_gather 149 = .ok (.aload_n 0, 1) := by decide +kernel
theorem d_M_gather_150 : decode b_M_gather 150 = .ok (.getfield 29, 3) := by decide +kernel
theorem d_M_gather_153 : decode b_M_gather 153 = .ok (.iload_n 2, 1) := by decide +kernel
theorem d_M_gather_154 : decode b_M_gather 154 = .ok (.iaload, 1) := by decide +kernel
theorem d_M_gather_155 : decode b_M_gather 155 = .ok (.iastore, 1) := by decide +kernel
theorem d_M_gather_156 : decode b_M_gather 156 = .ok (.iinc 2 1, 3) := by decide +kernel
theorem d_M_gather_159 : decode b_M_gather 159 = .ok (.goto (-44), 3) := by decide +kernel
theorem d_M_gather_162 : decode b_M_gather 162 = .ok (.return_, 1) := by decide +kernel
theorem d_M_lookAtAll_0 : decode b_M_lookAtAll 0 = .ok (.iconst 0, 1) := by decide +kernel
theorem d_M_lookAtAll_1 : decode b_M_lookAtAll 1 = .ok (.istore_n 1, 1) := by decide +kernel
theorem d_M_lookAtAll_2 : decode b_M_lookAtAll 2 = .ok (.iconst 0, 1) := by decide +kernel
theorem d_M_lookAtAll_3 : decode b_M_lookAtAll 3 = .ok (.istore_n 2, 1) := by decide +kernel
theorem d_M_lookAtAll_4 : decode b_M_lookAtAll 4 = .ok (.iload_n 2, 1) := by decide +kernel
theorem d_M_lookAtAll_5 : decode b_M_lookAtAll 5 = .ok (.bipush 8, 2) := by decide +kernel
theorem d_M_lookAtAll_7 : decode b_M_lookAtAll 7 = .ok (.if_icmp .ge 34, 3) := by decide +kernel
theorem d_M_lookAtAll_10 : decode b_M_lookAtAll 10 = .ok (.aload_n 0, 1) := by decide +kernel
theorem d_M_lookAtAll_11 : decode b_M_lookAtAll 11 = .ok (.aload_n 0, 1) := by decide +kernel
theorem d_M_lookAtAll_12 : decode b_M_lookAtAll 12 = .ok (.getfield 7, 3) := by decide +kernel
theorem d_M_lookAtAll_15 : decode b_M_lookAtAll 15 = .ok (.iload_n 2, 1) := by decide +kernel
theorem d_M_lookAtAll_16 : decode b_M_lookAtAll 16 = .ok (.iaload, 1) := by decide +kernel
theorem d_M_lookAtAll_17 : decode b_M_lookAtAll 17 = .ok (.invokevirtual 47, 3) := by decide +kernel
theorem d_M_lookAtAll_20 : decode b_M_lookAtAll 20 = .ok (.istore_n 3, 1) := by decide +kernel
theorem d_M_lookAtAll_21 : decode b_M_lookAtAll 21 = .ok (.iload_n 1, 1) := by decide +kernel
theorem d_M_lookAtAll_22 : decode b_M_lookAtAll 22 = .ok (.ifCond .ne 7, 3) := by decide +kernel
theorem d_M_lookAtAll_25 : decode b_M_lookAtAll 25 = .ok (.iload_n 3, 1) := by decide +kernel
theorem d_M_lookAtAll_26 : decode b_M_lookAtAll 26 = .ok (.ifCond .eq 7, 3) := by decide +kernel
theorem d_M_lookAtAll_29 : decode b_M_lookAtAll 29 = .ok (.iconst 1, 1) := by decide +kernel
theorem d_M_lookAtAll_30 : decode b_M_lookAtAll 30 = .ok (.goto 4, 3) := by decide +kernel
theorem d_M_lookAtAll_33 : decode b_M_lookAtAll 33 = .ok (.iconst 0, 1) := by decide +kernel
theorem d_M_lookAtAll_34 : decode b_M_lookAtAll 34 = .ok (.istore_n 1, 1) := by decide +kernel
theorem d_M_lookAtAll_35 : decode b_M_lookAtAll 35 = .ok (.iinc 2 1, 3) := by decide +kernel
theorem d_M_lookAtAll_38 : decode b_M_lookAtAll 38 = .ok (.goto (-34), 3) := by decide +kernel
theorem d_M_lookAtAll_41 : decode b_M_lookAtAll 41 = .ok (.iconst 0, 1) := by decide +kernel
theorem d_M_lookAtAll_42 : decode b_M_lookAtAll 42 = .ok (.istore_n 2, 1) := by decide +kernel
theorem d_M_lookAtAll_43 : decode b_M_lookAtAll 43 = .ok (.iload_n 2, 1) := by decide +kernel
theorem d_M_lookAtAll_44 : decode b_M_lookAtAll 44 = .ok (.sipush 512, 3) := by decide +kernel
theorem d_M_lookAtAll_47 : decode b_M_lookAtAll 47 = .ok (.if_icmp .ge 67, 3) := by decide +kernel
theorem d_M_lookAtAll_50 : decode b_M_lookAtAll 50 = .ok (.aload_n 0, 1) := by decide +kernel
theorem d_M_lookAtAll_51 : decode b_M_lookAtAll 51 = .ok (.getfield 16, 3) := by decide +kernel
theorem d_M_lookAtAll_54 : decode b_M_lookAtAll 54 = .ok (.iload_n 2, 1) := by decide +kernel
theorem d_M_lookAtAll_55 : decode b_M_lookAtAll 55 = .ok (.iaload, 1) := by decide +kernel
theorem d_M_lookAtAll_56 : decode b_M_lookAtAll 56 = .ok (.iconst 1, 1) := by decide +kernel
theorem d_M_lookAtAll_57 : decode b_M_lookAtAll 57 = .ok (.isub, 1) := by decide +kernel
theorem d_M_lookAtAll_58 : decode b_M_lookAtAll 58 = .ok (.istore_n 3, 1) := by decide +kernel
theorem d_M_lookAtAll_59 : decode b_M_lookAtAll 59 = .ok (.iload_n 3, 1) := by decide +kernel
theorem d_M_lookAtAll_60 : decode b_M_lookAtAll 60 = .ok (.ifCond .lt 48, 3) := by decide +kernel
theorem d_M_lookAtAll_63 : decode b_M_lookAtAll 63 = .ok (.aload_n 0, 1) := by decide +kernel
theorem d_M_lookAtAll_64 : decode b_M_lookAtAll 64 = .ok (.getfield 26, 3) := by decide +kernel
theorem d_M_lookAtAll_67 : decode b_M_lookAtAll 67 = .ok (.iload_n 3, 1) := by decide +kernel
theorem d_M_lookAtAll_68 : decode b_M_lookAtAll 68 = .ok (.baload, 1) := by decide +kernel
theorem d_M_lookAtAll_69 : decode b_M_lookAtAll 69 = .ok (.ifCond .eq 39, 3) := by decide +kernel
theorem d_M_lookAtAll_72 : decode b_M_lookAtAll 72 = .ok (.aload_n 0, 1) := by decide +kernel
theorem d_M_lookAtAll_73 : decode b_M_lookAtAll 73 = .ok (.getfield 22, 3) := by decide +kernel
theorem d_M_lookAtAll_76 : decode b_M_lookAtAll 76 = .ok (.iload_n 3, 1) := by decide +kernel
theorem d_M_lookAtAll_77 : decode b_M_lookAtAll 77 = .ok (.baload, 1) := by decide +kernel
theorem d_M_lookAtAll_78 : decode b_M_lookAtAll 78 = .ok (.ifCond .ne 30, 3) := by decide +kernel
theorem d_M_lookAtAll_81 : decode b_M_lookAtAll 81 = .ok (.aload_n 0, 1) := by decide +kernel
theorem d_M_lookAtAll_82 : decode b_M_lookAtAll 82 = .ok (.aload_n 0, 1) := by decide +kernel
theorem d_M_lookAtAll_83 : decode b_M_lookAtAll 83 = .ok (.getfield 13, 3) := by decide +kernel
theorem d_M_lookAtAll_86 : decode b_M_lookAtAll 86 = .ok (.iload_n 2, 1) := by decide +kernel
theorem d_M_lookAtAll_87 : decode b_M_lookAtAll 87 = .ok (.iaload, 1) := by decide +kernel
theorem d_M_lookAtAll_88 : decode b_M_lookAtAll 88 = .ok (.invokevirtual 47, 3) := by decide +kernel
theorem d_M_lookAtAll_91 : decode b_M_lookAtAll 91 = .ok (.istore 4, 2) := by decide +kernel
theorem d_M_lookAtAll_93 : decode b_M_lookAtAll 93 = .ok (.iload_n 1, 1) := by decide +kernel
theorem d_M_lookAtAll_94 : decode b_M_lookAtAll 94 = .ok (.ifCond .ne 8, 3) := by decide +kernel
theorem d_M_lookAtAll_97 : decode b_M_lookAtAll 97 = .ok (.iload 4, 2) := by decide +kernel
theorem d_M_lookAtAll_99 : decode b_M_lookAtAll 99 = .ok (.ifCond .eq 7, 3) := by decide +kernel
theorem d_M_lookAtAll_102 : decode b_M_lookAtAll 102 = .ok (.iconst 1, 1) := by decide +kernel
theorem d_M_lookAtAll_103 : decode b_M_lookAtAll 103 = .ok (.goto 4, 3) := by decide +kernel
theorem d_M_lookAtAll_106 : decode b_M_lookAtAll 106 = .ok (.iconst 0, 1) := by decide +kernel
theorem d_M_lookAtAll_107 : decode b_M_lookAtAll 107 = .ok (.istore_n 1, 1) := by decide +kernel
theorem d_M_lookAtAll_108 : decode b_M_lookAtAll 108 = .ok (.iinc 2 1, 3) := by decide +kernel
theorem d_M_lookAtAll_111 : decode b_M_lookAtAll 111 = .ok (.goto (-68), 3) := by decide +kernel
theorem d_M_lookAtAll_114 : decode b_M_lookAtAll 114 = .ok (.iload_n 1, 1) := by decide +kernel
theorem d_M_lookAtAll_115 : decode b_M_lookAtAll 115 = .ok (.ireturn, 1) := by decide +kernel
theorem d_M_look_0 : decode b_M_look 0 = .ok (.iload_n 1, 1) := by decide +kernel
theorem d_M_look_1 : decode b_M_look 1 = .ok (.invokestatic 39, 3) := by decide +kernel
theorem d_M_look_4 : decode b_M_look 4 = .ok (.ifCond .ne 5, 3) := by decide +kernel
theorem d_M_look_7 : decode b_M_look 7 = .ok (.iconst 0, 1) := by decide +kernel
theorem d_M_look_8 : decode b_M_look 8 = .ok (.ireturn, 1) := by decide +kernel
theorem d_M_look_9 : decode b_M_look 9 = .ok (.aload_n 0, 1) := by decide +kernel
theorem d_M_look_10 : decode b_M_look 10 = .ok (.iload_n 1, 1) := by decide +kernel
theorem d_M_look_11 : decode b_M_look 11 = .ok (.invokevirtual 43, 3) := by decide +kernel
theorem d_M_look_14 : decode b_M_look 14 = .ok (.istore_n 2, 1) := by decide +kernel
theorem d_M_look_15 : decode b_M_look 15 = .ok (.iload_n 2, 1) := by decide +kernel
theorem d_M_look_16 : decode b_M_look 16 = .ok (.ifCond .ge 43, 3) := by decide +kernel
theorem d_M_look_19 : decode b_M_look 19 = .ok (.iload_n 1, 1) := by decide +kernel
theorem d_M_look_20 : decode b_M_look 20 = .ok (.sipush 4096, 3) := by decide +kernel
theorem d_M_look_23 : decode b_M_look 23 = .ok (.isub, 1) := by decide +kernel
theorem d_M_look_24 : decode b_M_look 24 = .ok (.bipush 32, 2) := by decide +kernel
theorem d_M_look_26 : decode b_M_look 26 = .ok (.idiv, 1) := by decide +kernel
theorem d_M_look_27 : decode b_M_look 27 = .ok (.istore_n 3, 1) := by decide +kernel
theorem d_M_look_28 : decode b_M_look 28 = .ok (.aload_n 0, 1) := by decide +kernel
theorem d_M_look_29 : decode b_M_look 29 = .ok (.getfield 32, 3) := by decide +kernel
theorem d_M_look_32 : decode b_M_look 32 = .ok (.iload_n 3, 1) := by decide +kernel
theorem d_M_look_33 : decode b_M_look 33 = .ok (.aload_n 0, 1) := by decide +kernel
theorem d_M_look_34 : decode b_M_look 34 = .ok (.getfield 32, 3) := by decide +kernel
theorem d_M_look_37 : decode b_M_look 37 = .ok (.iload_n 3, 1) := by decide +kernel
theorem d_M_look_38 : decode b_M_look 38 = .ok (.baload, 1) := by decide +kernel
theorem d_M_look_39 : decode b_M_look 39 = .ok (.ifCond .ne 12, 3) := by decide +kernel
theorem d_M_look_42 : decode b_M_look 42 = .ok (.aload_n 0, 1) := by decide +kernel
theorem d_M_look_43 : decode b_M_look 43 = .ok (.getfield 29, 3) := by decide +kernel
theorem d_M_look_46 : decode b_M_look 46 = .ok (.iload_n 3, 1) := by decide +kernel
theorem d_M_look_47 : decode b_M_look 47 = .ok (.iaload, 1) := by decide +kernel
theorem d_M_look_48 : decode b_M_look 48 = .ok (.ifCond .ne 7, 3) := by decide +kernel
theorem d_M_look_51 : decode b_M_look 51 = .ok (.iconst 1, 1) := by decide +kernel
theorem d_M_look_52 : decode b_M_look 52 = .ok (.goto 4, 3) := by decide +kernel
theorem d_M_look_55 : decode b_M_look 55 = .ok (.iconst 0, 1) := by decide +kernel
theorem d_M_look_56 : decode b_M_look 56 = .ok (.bastore, 1) := by decide +kernel
theorem d_M_look_57 : decode b_M_look 57 = .ok (.iconst 0, 1) := by decide +kernel
theorem d_M_look_58 : decode b_M_look 58 = .ok (.ireturn, 1) := by decide +kernel
theorem d_M_look_59 : decode b_M_look 59 = .ok (.aload_n 0, 1) := by decide +kernel
theorem d_M_look_60 : decode b_M_look 60 = .ok (.getfield 26, 3) := by decide +kernel
theorem d_M_look_63 : decode b_M_look 63 = .ok (.iload_n 2, 1) := by decide +kernel
theorem d_M_look_64 : decode b_M_look 64 = .ok (.baload, 1) := by decide +kernel
theorem d_M_look_65 : decode b_M_look 65 = .ok (.ifCond .ne 7, 3) := by decide +kernel
theorem d_M_look_68 : decode b_M_look 68 = .ok (.iconst 1, 1) := by decide +kernel
theorem d_M_look_69 : decode b_M_look 69 = .ok (.goto 4, 3) := by decide +kernel
theorem d_M_look_72 : decode b_M_look 72 = .ok (.iconst 0, 1) := by decide +kernel
theorem d_M_look_73 : decode b_M_look 73 = .ok (.istore_n 3, 1) := by decide +kernel
theorem d_M_look_74 : decode b_M_look 74 = .ok (.aload_n 0, 1) := by decide +kernel
theorem d_M_look_75 : decode b_M_look 75 = .ok (.getfield 26, 3) := by decide +kernel
theorem d_M_look_78 : decode b_M_look 78 = .ok (.iload_n 2, 1) := by decide +kernel
theorem d_M_look_79 : decode b_M_look 79 = .ok (.iconst 1, 1) := by decide +kernel
theorem d_M_look_80 : decode b_M_look 80 = .ok (.bastore, 1) := by decide +kernel
theorem d_M_look_81 : decode b_M_look 81 = .ok (.iload_n 3, 1) := by decide +kernel
theorem d_M_look_82 : decode b_M_look 82 = .ok (.ireturn, 1) := by decide +kernel
theorem d_M_isAddress_0 : decode b_M_isAddress 0 = .ok (.iload_n 0, 1) := by decide +kernel
theorem d_M_isAddress_1 : decode b_M_isAddress 1 = .ok (.sipush 4096, 3) := by decide +kernel
theorem d_M_isAddress_4 : decode b_M_isAddress 4 = .ok (.if_icmp .lt 14, 3) := by decide +kernel
theorem d_M_isAddress_7 : decode b_M_isAddress 7 = .ok (.iload_n 0, 1) := by decide +kernel
theorem d_M_isAddress_8 : decode b_M_isAddress 8 = .ok (.sipush 4608, 3) := by decide +kernel
theorem d_M_isAddress_11 : decode b_M_isAddress 11 = .ok (.if_icmp .ge 7, 3) := by decide +kernel
theorem d_M_isAddress_14 : decode b_M_isAddress 14 = .ok (.iconst 1, 1) := by decide +kernel
theorem d_M_isAddress_15 : decode b_M_isAddress 15 = .ok (.goto 4, 3) := by decide +kernel
theorem d_M_isAddress_18 : decode b_M_isAddress 18 = .ok (.iconst 0, 1) := by decide +kernel
theorem d_M_isAddress_19 : decode b_M_isAddress 19 = .ok (.ireturn, 1) := by decide +kernel
theorem d_M_objectAt_0 : decode b_M_objectAt 0 = .ok (.iload_n 1, 1) := by decide +kernel
theorem d_M_objectAt_1 : decode b_M_objectAt 1 = .ok (.invokestatic 39, 3) := by decide +kernel
theorem d_M_objectAt_4 : decode b_M_objectAt 4 = .ok (.ifCond .eq 18, 3) := by decide +kernel
theorem d_M_objectAt_7 : decode b_M_objectAt 7 = .ok (.aload_n 0, 1) := by decide +kernel
theorem d_M_objectAt_8 : decode b_M_objectAt 8 = .ok (.getfield 16, 3) := by decide +kernel
theorem d_M_objectAt_11 : decode b_M_objectAt 11 = .ok (.iload_n 1, 1) := by decide +kernel
theorem d_M_objectAt_12 : decode b_M_objectAt 12 = .ok (.sipush 4096, 3) := by decide +kernel
theorem d_M_objectAt_15 : decode b_M_objectAt 15 = .ok (.isub, 1) := by decide +kernel
theorem d_M_objectAt_16 : decode b_M_objectAt 16 = .ok (.iaload, 1) := by decide +kernel
theorem d_M_objectAt_17 : decode b_M_objectAt 17 = .ok (.iconst 1, 1) := by decide +kernel
theorem d_M_objectAt_18 : decode b_M_objectAt 18 = .ok (.isub, 1) := by decide +kernel
theorem d_M_objectAt_19 : decode b_M_objectAt 19 = .ok (.goto 4, 3) := by decide +kernel
theorem d_M_objectAt_22 : decode b_M_objectAt 22 = .ok (.iconst (-1), 1) := by decide +kernel
theorem d_M_objectAt_23 : decode b_M_objectAt 23 = .ok (.ireturn, 1) := by decide +kernel
theorem d_M_giveUp_0 : decode b_M_giveUp 0 = .ok (.aload_n 0, 1) := by decide +kernel
theorem d_M_giveUp_1 : decode b_M_giveUp 1 = .ok (.getfield 19, 3) := by decide +kernel
theorem d_M_giveUp_4 : decode b_M_giveUp 4 = .ok (.iload_n 1, 1) := by decide +kernel
theorem d_M_giveUp_5 : decode b_M_giveUp 5 = .ok (.iaload, 1) := by decide +kernel
theorem d_M_giveUp_6 : decode b_M_giveUp 6 = .ok (.istore_n 2, 1) := by decide +kernel
theorem d_M_giveUp_7 : decode b_M_giveUp 7 = .ok (.iload_n 1, 1) := by decide +kernel
theorem d_M_giveUp_8 : decode b_M_giveUp 8 = .ok (.istore_n 3, 1) := by decide +kernel
theorem d_M_giveUp_9 : decode b_M_giveUp 9 = .ok (.iload_n 3, 1) := by decide +kernel
theorem d_M_giveUp_10 : decode b_M_giveUp 10 = .ok (.iload_n 1, 1) := by decide +kernel
theorem d_M_giveUp_11 : decode b_M_giveUp 11 = .ok (.iload_n 2, 1) := by decide +kernel
theorem d_M_giveUp_12 : decode b_M_giveUp 12 = .ok (.iadd, 1) := by decide +kernel
theorem d_M_giveUp_13 : decode b_M_giveUp 13 = .ok (.if_icmp .ge 23, 3) := by decide +kernel
theorem d_M_giveUp_16 : decode b_M_giveUp 16 = .ok (.aload_n 0, 1) := by decide +kernel
theorem d_M_giveUp_17 : decode b_M_giveUp 17 = .ok (.getfield 13, 3) := by decide +kernel
theorem d_M_giveUp_20 : decode b_M_giveUp 20 = .ok (.iload_n 3, 1) := by decide +kernel
theorem d_M_giveUp_21 : decode b_M_giveUp 21 = .ok (.iconst 0, 1) := by decide +kernel
theorem d_M_giveUp_22 : decode b_M_giveUp 22 = .ok (.iastore, 1) := by decide +kernel
theorem d_M_giveUp_23 : decode b_M_giveUp 23 = .ok (.aload_n 0, 1) := by decide +kernel
theorem d_M_giveUp_24 : decode b_M_giveUp 24 = .ok (.getfield 16, 3) := by decide +kernel
theorem d_M_giveUp_27 : decode b_M_giveUp 27 = .ok (.iload_n 3, 1) := by decide +kernel
theorem d_M_giveUp_28 : decode b_M_giveUp 28 = .ok (.iconst 0, 1) := by decide +kernel
theorem d_M_giveUp_29 : decode b_M_giveUp 29 = .ok (.iastore, 1) := by decide +kernel
theorem d_M_giveUp_30 : decode b_M_giveUp 30 = .ok (.iinc 3 1, 3) := by decide +kernel
theorem d_M_giveUp_33 : decode b_M_giveUp 33 = .ok (.goto (-24), 3) := by decide +kernel
theorem d_M_giveUp_36 : decode b_M_giveUp 36 = .ok (.iconst 0, 1) := by decide +kernel
theorem d_M_giveUp_37 : decode b_M_giveUp 37 = .ok (.istore_n 3, 1) := by decide +kernel
theorem d_M_giveUp_38 : decode b_M_giveUp 38 = .ok (.iload_n 3, 1) := by decide +kernel
theorem d_M_giveUp_39 : decode b_M_giveUp 39 = .ok (.bipush 16, 2) := by decide +kernel
theorem d_M_giveUp_41 : decode b_M_giveUp 41 = .ok (.if_icmp .ge 54, 3) := by decide +kernel
theorem d_M_giveUp_44 : decode b_M_giveUp 44 = .ok (.aload_n 0, 1) := by decide +kernel
theorem d_M_giveUp_45 : decode b_M_giveUp 45 = .ok (.getfield 29, 3) := by decide +kernel
theorem d_M_giveUp_48 : decode b_M_giveUp 48 = .ok (.iload_n 3, 1) := by decide +kernel
theorem d_M_giveUp_49 : decode b_M_giveUp 49 = .ok (.aload_n 0, 1) := by decide +kernel
theorem d_M_giveUp_50 : decode b_M_giveUp 50 = .ok (.getfield 29, 3) := by decide +kernel
theorem d_M_giveUp_53 : decode b_M_giveUp 53 = .ok (.iload_n 3, 1) := by decide +kernel
theorem d_M_giveUp_54 : decode b_M_giveUp 54 = .ok (.iaload, 1) := by decide +kernel
theorem d_M_giveUp_55 : decode b_M_giveUp 55 = .ok (.bipush 32, 2) := by decide +kernel
theorem d_M_giveUp_57 : decode b_M_giveUp 57 = .ok (.if_icmp .lt 25, 3) := by decide +kernel
theorem d_M_giveUp_60 : decode b_M_giveUp 60 = .ok (.bipush 32, 2) := by decide +kernel
theorem d_M_giveUp_62 : decode b_M_giveUp 62 = .ok (.iload_n 3, 1) := by decide +kernel
theorem d_M_giveUp_63 : decode b_M_giveUp 63 = .ok (.imul, 1) := by decide +kernel
theorem d_M_giveUp_64 : decode b_M_giveUp 64 = .ok (.iload_n 1, 1) := by decide +kernel
theorem d_M_giveUp_65 : decode b_M_giveUp 65 = .ok (.if_icmp .lt 17, 3) := by decide +kernel
theorem d_M_giveUp_68 : decode b_M_giveUp 68 = .ok (.bipush 32, 2) := by decide +kernel
theorem d_M_giveUp_70 : decode b_M_giveUp 70 = .ok (.iload_n 3, 1) := by decide +kernel
theorem d_M_giveUp_71 : decode b_M_giveUp 71 = .ok (.imul, 1) := by decide +kernel
theorem d_M_giveUp_72 : decode b_M_giveUp 72 = .ok (.iload_n 1, 1) := by decide +kernel
theorem d_M_giveUp_73 : decode b_M_giveUp 73 = .ok (.iload_n 2, 1) := by decide +kernel
theorem d_M_giveUp_74 : decode b_M_giveUp 74 = .ok (.iadd, 1) := by decide +kernel
theorem d_M_giveUp_75 : decode b_M_giveUp 75 = .ok (.if_icmp .ge 7, 3) := by decide +kernel
theorem d_M_giveUp_78 : decode b_M_giveUp 78 = .ok (.iconst 0, 1) := by decide +kernel
theorem d_M_giveUp_79 : decode b_M_giveUp 79 = .ok (.goto 9, 3) := by decide +kernel
theorem d_M_giveUp_82 : decode b_M_giveUp 82 = .ok (.aload_n 0, 1) := by decide +kernel
theorem d_M_giveUp_83 : decode b_M_giveUp 83 = .ok (.getfield 29, 3) := by decide +kernel
theorem d_M_giveUp_86 : decode b_M_giveUp 86 = .ok (.iload_n 3, 1) := by decide +kernel
theorem d_M_giveUp_87 : decode b_M_giveUp 87 = .ok (.iaload, 1) := by decide +kernel
theorem d_M_giveUp_88 : decode b_M_giveUp 88 = .ok (.iastore, 1) := by decide +kernel
theorem d_M_giveUp_89 : decode b_M_giveUp 89 = .ok (.iinc 3 1, 3) := by decide +kernel
theorem d_M_giveUp_92 : decode b_M_giveUp 92 = .ok (.goto (-54), 3) := by decide +kernel
theorem d_M_giveUp_95 : decode b_M_giveUp 95 = .ok (.aload_n 0, 1) := by decide +kernel
theorem d_M_giveUp_96 : decode b_M_giveUp 96 = .ok (.dup, 1) := by decide +kernel
theorem d_M_giveUp_97 : decode b_M_giveUp 97 = .ok (.getfield 50, 3) := by decide +kernel
theorem d_M_giveUp_100 : decode b_M_giveUp 100 = .ok (.iconst 1, 1) := by decide +kernel
theorem d_M_giveUp_101 : decode b_M_giveUp 101 = .ok (.iadd, 1) := by decide +kernel
theorem d_M_giveUp_102 : decode b_M_giveUp 102 = .ok (.putfield 50, 3) := by decide +kernel
theorem d_M_giveUp_105 : decode b_M_giveUp 105 = .ok (.return_, 1) := by decide +kernel
theorem d_M_isBare_0 : decode b_M_isBare 0 = .ok (.iconst 1, 1) := by decide +kernel
theorem d_M_isBare_1 : decode b_M_isBare 1 = .ok (.istore_n 2, 1) := by decide +kernel
theorem d_M_isBare_2 : decode b_M_isBare 2 = .ok (.bipush 32, 2) := by decide +kernel
theorem d_M_isBare_4 : decode b_M_isBare 4 = .ok (.iload_n 1, 1) := by decide +kernel
theorem d_M_isBare_5 : decode b_M_isBare 5 = .ok (.imul, 1) := by decide +kernel
theorem d_M_isBare_6 : decode b_M_isBare 6 = .ok (.istore_n 3, 1) := by decide +kernel
theorem d_M_isBare_7 : decode b_M_isBare 7 = .ok (.iload_n 3, 1) := by decide +kernel
theorem d_M_isBare_8 : decode b_M_isBare 8 = .ok (.bipush 32, 2) := by decide +kernel
theorem d_M_isBare_10 : decode b_M_isBare 10 = .ok (.iload_n 1, 1) := by decide +kernel
theorem d_M_isBare_11 : decode b_M_isBare 11 = .ok (.imul, 1) := by decide +kernel
theorem d_M_isBare_12 : decode b_M_isBare 12 = .ok (.bipush 32, 2) := by decide +kernel
theorem d_M_isBare_14 : decode b_M_isBare 14 = .ok (.iadd, 1) := by decide +kernel
theorem d_M_isBare_15 : decode b_M_isBare 15 = .ok (.if_icmp .ge 28, 3) := by decide +kernel
theorem d_M_isBare_18 : decode b_M_isBare 18 = .ok (.iload_n 2, 1) := by decide +kernel
theorem d_M_isBare_19 : decode b_M_isBare 19 = .ok (.ifCond .eq 16, 3) := by decide +kernel
theorem d_M_isBare_22 : decode b_M_isBare 22 = .ok (.aload_n 0, 1) := by decide +kernel
theorem d_M_isBare_23 : decode b_M_isBare 23 = .ok (.getfield 16, 3) := by decide +kernel
theorem d_M_isBare_26 : decode b_M_isBare 26 = .ok (.iload_n 3, 1) := by decide +kernel
theorem d_M_isBare_27 : decode b_M_isBare 27 = .ok (.iaload, 1) := by decide +kernel
theorem d_M_isBare_28 : decode b_M_isBare 28 = .ok (.ifCond .ne 7, 3) := by decide +kernel
theorem d_M_isBare_31 : decode b_M_isBare 31 = .ok (.iconst 1, 1) := by decide +kernel
theorem d_M_isBare_32 : decode b_M_isBare 32 = .ok (.goto 4, 3) := by decide +kernel
theorem d_M_isBare_35 : decode b_M_isBare 35 = .ok (.iconst 0, 1) := by decide +kernel
theorem d_M_isBare_36 : decode b_M_isBare 36 = .ok (.istore_n 2, 1) := by decide +kernel
theorem d_M_isBare_37 : decode b_M_isBare 37 = .ok (.iinc 3 1, 3) := by decide +kernel
theorem d_M_isBare_40 : decode b_M_isBare 40 = .ok (.goto (-33), 3) := by decide +kernel
theorem d_M_isBare_43 : decode b_M_isBare 43 = .ok (.iload_n 2, 1) := by decide +kernel
theorem d_M_isBare_44 : decode b_M_isBare 44 = .ok (.ireturn, 1) := by decide +kernel
theorem d_M_settle_0 : decode b_M_settle 0 = .ok (.iload_n 2, 1) := by decide +kernel
theorem d_M_settle_1 : decode b_M_settle 1 = .ok (.bipush 16, 2) := by decide +kernel
theorem d_M_settle_3 : decode b_M_settle 3 = .ok (.if_icmp .gt 10, 3) := by decide +kernel
theorem d_M_settle_6 : decode b_M_settle 6 = .ok (.iload_n 2, 1) := by decide +kernel
theorem d_M_settle_7 : decode b_M_settle 7 = .ok (.invokestatic 71, 3) := by decide +kernel
theorem d_M_settle_10 : decode b_M_settle 10 = .ok (.goto 13, 3) := by decide +kernel
theorem d_M_settle_13 : decode b_M_settle 13 = .ok (.iload_n 2, 1) := by decide +kernel
theorem d_M_settle_14 : decode b_M_settle 14 = .ok (.bipush 31, 2) := by decide +kernel
theorem d_M_settle_16 : decode b_M_settle 16 = .ok (.iadd, 1) := by decide +kernel
theorem d_M_settle_17 : decode b_M_settle 17 = .ok (.bipush 32, 2) := by decide +kernel
theorem d_M_settle_19 : decode b_M_settle 19 = .ok (.idiv, 1) := by decide +kernel
theorem d_M_settle_20 : decode b_M_settle 20 = .ok (.bipush 32, 2) := by decide +kernel
theorem d_M_settle_22 : decode b_M_settle 22 = .ok (.imul, 1) := by decide +kernel
theorem d_M_settle_23 : decode b_M_settle 23 = .ok (.istore 4, 2) := by decide +kernel
theorem d_M_settle_25 : decode b_M_settle 25 = .ok (.aload_n 0, 1) := by decide +kernel
theorem d_M_settle_26 : decode b_M_settle 26 = .ok (.getfield 19, 3) := by decide +kernel
theorem d_M_settle_29 : decode b_M_settle 29 = .ok (.iload_n 1, 1) := by decide +kernel
theorem d_M_settle_30 : decode b_M_settle 30 = .ok (.iload 4, 2) := by decide +kernel
theorem d_M_settle_32 : decode b_M_settle 32 = .ok (.iastore, 1) := by decide +kernel
theorem d_M_settle_33 : decode b_M_settle 33 = .ok (.aload_n 0, 1) := by decide +kernel
theorem d_M_settle_34 : decode b_M_settle 34 = .ok (.getfield 22, 3) := by decide +kernel
theorem d_M_settle_37 : decode b_M_settle 37 = .ok (.iload_n 1, 1) := by decide +kernel
theorem d_M_settle_38 : decode b_M_settle 38 = .ok (.iload_n 3, 1) := by decide +kernel
theorem d_M_settle_39 : decode b_M_settle 39 = .ok (.bastore, 1) := by decide +kernel
theorem d_M_settle_40 : decode b_M_settle 40 = .ok (.iload_n 1, 1) := by decide +kernel
theorem d_M_settle_41 : decode b_M_settle 41 = .ok (.istore 5, 2) := by decide +kernel
theorem d_M_settle_43 : decode b_M_settle 43 = .ok (.iload 5, 2) := by decide +kernel
theorem d_M_settle_45 : decode b_M_settle 45 = .ok (.iload_n 1, 1) := by decide +kernel
theorem d_M_settle_46 : decode b_M_settle 46 = .ok (.iload 4, 2) := by decide +kernel
theorem d_M_settle_48 : decode b_M_settle 48 = .ok (.iadd, 1) := by decide +kernel
theorem d_M_settle_49 : decode b_M_settle 49 = .ok (.if_icmp .ge 78, 3) := by decide +kernel
theorem d_M_settle_52 : decode b_M_settle 52 = .ok (.aload_n 0, 1) := by decide +kernel
theorem d_M_settle_53 : decode b_M_settle 53 = .ok (.getfield 16, 3) := by decide +kernel
theorem d_M_settle_56 : decode b_M_settle 56 = .ok (.iload 5, 2) := by decide +kernel
theorem d_M_settle_58 : decode b_M_settle 58 = .ok (.iload_n 1, 1) := by decide +kernel
theorem d_M_settle_59 : decode b_M_settle 59 = .ok (.iconst 1, 1) := by decide +kernel
theorem d_M_settle_60 : decode b_M_settle 60 = .ok (.iadd, 1) := by decide +kernel
theorem d_M_settle_61 : decode b_M_settle 61 = .ok (.iastore, 1) := by decide +kernel
theorem d_M_settle_62 : decode b_M_settle 62 = .ok (.aload_n 0, 1) := by decide +kernel
theorem d_M_settle_63 : decode b_M_settle 63 = .ok (.getfield 13, 3) := by decide +kernel
theorem d_M_settle_66 : decode b_M_settle 66 = .ok (.iload 5, 2) := by decide +kernel
theorem d_M_settle_68 : decode b_M_settle 68 = .ok (.iconst 0, 1) := by decide +kernel
theorem d_M_settle_69 : decode b_M_settle 69 = .ok (.iastore, 1) := by decide +kernel
theorem d_M_settle_70 : decode b_M_settle 70 = .ok (.aload_n 0, 1) := by decide +kernel
theorem d_M_settle_71 : decode b_M_settle 71 = .ok (.getfield 29, 3) := by decide +kernel
theorem d_M_settle_74 : decode b_M_settle 74 = .ok (.iload 5, 2) := by decide +kernel
theorem d_M_settle_76 : decode b_M_settle 76 = .ok (.bipush 32, 2) := by decide +kernel
theorem d_M_settle_78 : decode b_M_settle 78 = .ok (.idiv, 1) := by decide +kernel
theorem d_M_settle_79 : decode b_M_settle 79 = .ok (.iload_n 2, 1) := by decide +kernel
theorem d_M_settle_80 : decode b_M_settle 80 = .ok (.bipush 16, 2) := by decide +kernel
theorem d_M_settle_82 : decode b_M_settle 82 = .ok (.if_icmp .gt 8, 3) := by decide +kernel
theorem d_M_settle_85 : decode b_M_settle 85 = .ok (.iload 4, 2) := by decide +kernel
theorem d_M_settle_87 : decode b_M_settle 87 = .ok (.goto 22, 3) := by decide +kernel
theorem d_M_settle_90 : decode b_M_settle 90 = .ok (.iload 5, 2) := by decide +kernel
theorem d_M_settle_92 : decode b_M_settle 92 = .ok (.bipush 32, 2) := by decide +kernel
theorem d_M_settle_94 : decode b_M_settle 94 = .ok (.idiv, 1) := by decide +kernel
theorem d_M_settle_95 : decode b_M_settle 95 = .ok (.iload_n 1, 1) := by decide +kernel
theorem d_M_settle_96 : decode b_M_settle 96 = .ok (.bipush 32, 2) := by decide +kernel
theorem d_M_settle_98 : decode b_M_settle 98 = .ok (.idiv, 1) := by decide +kernel
theorem d_M_settle_99 : decode b_M_settle 99 = .ok (.if_icmp .ne 8, 3) := by decide +kernel
theorem d_M_settle_102 : decode b_M_settle 102 = .ok (.bipush 32, 2) := by decide +kernel
theorem d_M_settle_104 : decode b_M_settle 104 = .ok (.goto 5, 3) := by decide +kernel
theorem d_M_settle_107 : decode b_M_settle 107 = .ok (.bipush 33, 2) := by decide +kernel
theorem d_M_settle_109 : decode b_M_settle 109 = .ok (.iastore, 1) := by decide +kernel
theorem d_M_settle_110 : decode b_M_settle 110 = .ok (.aload_n 0, 1) := by decide +kernel
theorem d_M_settle_111 : decode b_M_settle 111 = .ok (.getfield 32, 3) := by decide +kernel
theorem d_M_settle_114 : decode b_M_settle 114 = .ok (.iload 5, 2) := by decide +kernel
theorem d_M_settle_116 : decode b_M_settle 116 = .ok (.bipush 32, 2) := by decide +kernel
theorem d_M_settle_118 : decode b_M_settle 118 = .ok (.idiv, 1) := by decide +kernel
theorem d_M_settle_119 : decode b_M_settle 119 = .ok (.iconst 0, 1) := by decide +kernel
theorem d_M_settle_120 : decode b_M_settle 120 = .ok (.bastore, 1) := by decide +kernel
theorem d_M_settle_121 : decode b_M_settle 121 = .ok (.iinc 5 1, 3) := by decide +kernel
theorem d_M_settle_124 : decode b_M_settle 124 = .ok (.goto (-81), 3) := by decide +kernel
theorem d_M_settle_127 : decode b_M_settle 127 = .ok (.return_, 1) := by decide +kernel
theorem d_M_collect_0 : decode b_M_collect 0 = .ok (.aload_n 0, 1) := by decide +kernel
theorem d_M_collect_1 : decode b_M_collect 1 = .ok (.iconst 0, 1) := by decide +kernel
theorem d_M_collect_2 : decode b_M_collect 2 = .ok (.putfield 35, 3) := by decide +kernel
theorem d_M_collect_5 : decode b_M_collect 5 = .ok (.aload_n 0, 1) := by decide +kernel
theorem d_M_collect_6 : decode b_M_collect 6 = .ok (.invokevirtual 84, 3) := by decide +kernel
theorem d_M_collect_9 : decode b_M_collect 9 = .ok (.aload_n 0, 1) := by decide +kernel
theorem d_M_collect_10 : decode b_M_collect 10 = .ok (.getfield 50, 3) := by decide +kernel
theorem d_M_collect_13 : decode b_M_collect 13 = .ok (.ireturn, 1) := by decide +kernel
theorem d_M_root_0 : decode b_M_root 0 = .ok (.aload_n 0, 1) := by decide +kernel
theorem d_M_root_1 : decode b_M_root 1 = .ok (.iload_n 1, 1) := by decide +kernel
theorem d_M_root_2 : decode b_M_root 2 = .ok (.ifCond .lt 9, 3) := by decide +kernel
theorem d_M_root_5 : decode b_M_root 5 = .ok (.iload_n 1, 1) := by decide +kernel
theorem d_M_root_6 : decode b_M_root 6 = .ok (.bipush 7, 2) := by decide +kernel
theorem d_M_root_8 : decode b_M_root 8 = .ok (.if_icmp .le 7, 3) := by decide +kernel
theorem d_M_root_11 : decode b_M_root 11 = .ok (.iconst 1, 1) := by decide +kernel
theorem d_M_root_12 : decode b_M_root 12 = .ok (.goto 4, 3) := by decide +kernel
theorem d_M_root_15 : decode b_M_root 15 = .ok (.iconst 0, 1) := by decide +kernel
theorem d_M_root_16 : decode b_M_root 16 = .ok (.putfield 35, 3) := by decide +kernel
theorem d_M_root_19 : decode b_M_root 19 = .ok (.aload_n 0, 1) := by decide +kernel
theorem d_M_root_20 : decode b_M_root 20 = .ok (.getfield 35, 3) := by decide +kernel
theorem d_M_root_23 : decode b_M_root 23 = .ok (.ifCond .ne 10, 3) := by decide +kernel
theorem d_M_root_26 : decode b_M_root 26 = .ok (.aload_n 0, 1) := by decide +kernel
theorem d_M_root_27 : decode b_M_root 27 = .ok (.getfield 7, 3) := by decide +kernel
theorem d_M_root_30 : decode b_M_root 30 = .ok (.iload_n 1, 1) := by decide +kernel
theorem d_M_root_31 : decode b_M_root 31 = .ok (.iload_n 2, 1) := by decide +kernel
theorem d_M_root_32 : decode b_M_root 32 = .ok (.iastore, 1) := by decide +kernel
theorem d_M_root_33 : decode b_M_root 33 = .ok (.return_, 1) := by decide +kernel
theorem d_M_rooted_0 : decode b_M_rooted 0 = .ok (.aload_n 0, 1) := by decide +kernel
theorem d_M_rooted_1 : decode b_M_rooted 1 = .ok (.iload_n 1, 1) := by decide +kernel
theorem d_M_rooted_2 : decode b_M_rooted 2 = .ok (.ifCond .lt 9, 3) := by decide +kernel
theorem d_M_rooted_5 : decode b_M_rooted 5 = .ok (.iload_n 1, 1) := by decide +kernel
theorem d_M_rooted_6 : decode b_M_rooted 6 = .ok (.bipush 7, 2) := by decide +kernel
theorem d_M_rooted_8 : decode b_M_rooted 8 = .ok (.if_icmp .le 7, 3) := by decide +kernel
theorem d_M_rooted_11 : decode b_M_rooted 11 = .ok (.iconst 1, 1) := by decide +kernel
theorem d_M_rooted_12 : decode b_M_rooted 12 = .ok (.goto 4, 3) := by decide +kernel
theorem d_M_rooted_15 : decode b_M_rooted 15 = .ok (.iconst 0, 1) := by decide +kernel
theorem d_M_rooted_16 : decode b_M_rooted 16 = .ok (.putfield 35, 3) := by decide +kernel
theorem d_M_rooted_19 : decode b_M_rooted 19 = .ok (.aload_n 0, 1) := by decide +kernel
theorem d_M_rooted_20 : decode b_M_rooted 20 = .ok (.getfield 35, 3) := by decide +kernel
theorem d_M_rooted_23 : decode b_M_rooted 23 = .ok (.ifCond .ne 12, 3) := by decide +kernel
theorem d_M_rooted_26 : decode b_M_rooted 26 = .ok (.aload_n 0, 1) := by decide +kernel
theorem d_M_rooted_27 : decode b_M_rooted 27 = .ok (.getfield 7, 3) := by decide +kernel
theorem d_M_rooted_30 : decode b_M_rooted 30 = .ok (.iload_n 1, 1) := by decide +kernel
theorem d_M_rooted_31 : decode b_M_rooted 31 = .ok (.iaload, 1) := by decide +kernel
theorem d_M_rooted_32 : decode b_M_rooted 32 = .ok (.goto 4, 3) := by decide +kernel
theorem d_M_rooted_35 : decode b_M_rooted 35 = .ok (.iconst 0, 1) := by decide +kernel
theorem d_M_rooted_36 : decode b_M_rooted 36 = .ok (.ireturn, 1) := by decide +kernel
theorem d_M_read_0 : decode b_M_read 0 = .ok (.aload_n 0, 1) := by decide +kernel
theorem d_M_read_1 : decode b_M_read 1 = .ok (.aload_n 0, 1) := by decide +kernel
theorem d_M_read_2 : decode b_M_read 2 = .ok (.iload_n 1, 1) := by decide +kernel
theorem d_M_read_3 : decode b_M_read 3 = .ok (.invokevirtual 91, 3) := by decide +kernel
theorem d_M_read_6 : decode b_M_read 6 = .ok (.putfield 35, 3) := by decide +kernel
theorem d_M_read_9 : decode b_M_read 9 = .ok (.aload_n 0, 1) := by decide +kernel
theorem d_M_read_10 : decode b_M_read 10 = .ok (.getfield 35, 3) := by decide +kernel
theorem d_M_read_13 : decode b_M_read 13 = .ok (.ifCond .ne 16, 3) := by decide +kernel
theorem d_M_read_16 : decode b_M_read 16 = .ok (.aload_n 0, 1) := by decide +kernel
theorem d_M_read_17 : decode b_M_read 17 = .ok (.getfield 13, 3) := by decide +kernel
theorem d_M_read_20 : decode b_M_read 20 = .ok (.iload_n 1, 1) := by decide +kernel
theorem d_M_read_21 : decode b_M_read 21 = .ok (.sipush 4096, 3) := by decide +kernel
theorem d_M_read_24 : decode b_M_read 24 = .ok (.isub, 1) := by decide +kernel
theorem d_M_read_25 : decode b_M_read 25 = .ok (.iaload, 1) := by decide +kernel
theorem d_M_read_26 : decode b_M_read 26 = .ok (.goto 4, 3) := by decide +kernel
theorem d_M_read_29 : decode b_M_read 29 = .ok (.iconst 0, 1) := by decide +kernel
theorem d_M_read_30 : decode b_M_read 30 = .ok (.ireturn, 1) := by decide +kernel
theorem d_M_bar_0 : decode b_M_bar 0 = .ok (.iload_n 1, 1) := by decide +kernel
theorem d_M_bar_1 : decode b_M_bar 1 = .ok (.invokestatic 39, 3) := by decide +kernel
theorem d_M_bar_4 : decode b_M_bar 4 = .ok (.ifCond .ne 7, 3) := by decide +kernel
theorem d_M_bar_7 : decode b_M_bar 7 = .ok (.iconst 1, 1) := by decide +kernel
theorem d_M_bar_8 : decode b_M_bar 8 = .ok (.goto 16, 3) := by decide +kernel
theorem d_M_bar_11 : decode b_M_bar 11 = .ok (.aload_n 0, 1) := by decide +kernel
theorem d_M_bar_12 : decode b_M_bar 12 = .ok (.iload_n 1, 1) := by decide +kernel
theorem d_M_bar_13 : decode b_M_bar 13 = .ok (.invokevirtual 43, 3) := by decide +kernel
theorem d_M_bar_16 : decode b_M_bar 16 = .ok (.ifCond .ge 7, 3) := by decide +kernel
theorem d_M_bar_19 : decode b_M_bar 19 = .ok (.iconst 2, 1) := by decide +kernel
theorem d_M_bar_20 : decode b_M_bar 20 = .ok (.goto 4, 3) := by decide +kernel
theorem d_M_bar_23 : decode b_M_bar 23 = .ok (.iconst 0, 1) := by decide +kernel
theorem d_M_bar_24 : decode b_M_bar 24 = .ok (.ireturn, 1) := by decide +kernel
theorem d_M_write_0 : decode b_M_write 0 = .ok (.aload_n 0, 1) := by decide +kernel
theorem d_M_write_1 : decode b_M_write 1 = .ok (.aload_n 0, 1) := by decide +kernel
theorem d_M_write_2 : decode b_M_write 2 = .ok (.iload_n 1, 1) := by decide +kernel
theorem d_M_write_3 : decode b_M_write 3 = .ok (.invokevirtual 91, 3) := by decide +kernel
theorem d_M_write_6 : decode b_M_write 6 = .ok (.putfield 35, 3) := by decide +kernel
theorem d_M_write_9 : decode b_M_write 9 = .ok (.aload_n 0, 1) := by decide +kernel
theorem d_M_write_10 : decode b_M_write 10 = .ok (.getfield 35, 3) := by decide +kernel
theorem d_M_write_13 : decode b_M_write 13 = .ok (.ifCond .le 5, 3) := by decide +kernel
theorem d_M_write_16 : decode b_M_write 16 = .ok (.iconst 0, 1) := by decide +kernel
theorem d_M_write_17 : decode b_M_write 17 = .ok (.ireturn, 1) := by decide +kernel
theorem d_M_write_18 : decode b_M_write 18 = .ok (.aload_n 0, 1) := by decide +kernel
theorem d_M_write_19 : decode b_M_write 19 = .ok (.getfield 13, 3) := by decide +kernel
theorem d_M_write_22 : decode b_M_write 22 = .ok (.iload_n 1, 1) := by decide +kernel
theorem d_M_write_23 : decode b_M_write 23 = .ok (.sipush 4096, 3) := by decide +kernel
theorem d_M_write_26 : decode b_M_write 26 = .ok (.isub, 1) := by decide +kernel
theorem d_M_write_27 : decode b_M_write 27 = .ok (.iaload, 1) := by decide +kernel
theorem d_M_write_28 : decode b_M_write 28 = .ok (.istore_n 3, 1) := by decide +kernel
theorem d_M_write_29 : decode b_M_write 29 = .ok (.aload_n 0, 1) := by decide +kernel
theorem d_M_write_30 : decode b_M_write 30 = .ok (.getfield 13, 3) := by decide +kernel
theorem d_M_write_33 : decode b_M_write 33 = .ok (.iload_n 1, 1) := by decide +kernel
theorem d_M_write_34 : decode b_M_write 34 = .ok (.sipush 4096, 3) := by decide +kernel
theorem d_M_write_37 : decode b_M_write 37 = .ok (.isub, 1) := by decide +kernel
theorem d_M_write_38 : decode b_M_write 38 = .ok (.iload_n 2, 1) := by decide +kernel
theorem d_M_write_39 : decode b_M_write 39 = .ok (.iastore, 1) := by decide +kernel
theorem d_M_write_40 : decode b_M_write 40 = .ok (.iload_n 3, 1) := by decide +kernel
theorem d_M_write_41 : decode b_M_write 41 = .ok (.ireturn, 1) := by decide +kernel
theorem d_M_base_0 : decode b_M_base 0 = .ok (.aload_n 0, 1) := by decide +kernel
theorem d_M_base_1 : decode b_M_base 1 = .ok (.iconst 0, 1) := by decide +kernel
theorem d_M_base_2 : decode b_M_base 2 = .ok (.putfield 35, 3) := by decide +kernel
theorem d_M_base_5 : decode b_M_base 5 = .ok (.aload_n 0, 1) := by decide +kernel
theorem d_M_base_6 : decode b_M_base 6 = .ok (.iload_n 1, 1) := by decide +kernel
theorem d_M_base_7 : decode b_M_base 7 = .ok (.invokevirtual 43, 3) := by decide +kernel
theorem d_M_base_10 : decode b_M_base 10 = .ok (.istore_n 2, 1) := by decide +kernel
theorem d_M_base_11 : decode b_M_base 11 = .ok (.iload_n 2, 1) := by decide +kernel
theorem d_M_base_12 : decode b_M_base 12 = .ok (.ifCond .ge 7, 3) := by decide +kernel
theorem d_M_base_15 : decode b_M_base 15 = .ok (.iconst (-1), 1) := by decide +kernel
theorem d_M_base_16 : decode b_M_base 16 = .ok (.goto 8, 3) := by decide +kernel
theorem d_M_base_19 : decode b_M_base 19 = .ok (.sipush 4096, 3) := by decide +kernel
theorem d_M_base_22 : decode b_M_base 22 = .ok (.iload_n 2, 1) := by decide +kernel
theorem d_M_base_23 : decode b_M_base 23 = .ok (.iadd, 1) := by decide +kernel
theorem d_M_base_24 : decode b_M_base 24 = .ok (.ireturn, 1) := by decide +kernel
theorem d_M_size_0 : decode b_M_size 0 = .ok (.aload_n 0, 1) := by decide +kernel
theorem d_M_size_1 : decode b_M_size 1 = .ok (.iconst 0, 1) := by decide +kernel
theorem d_M_size_2 : decode b_M_size 2 = .ok (.putfield 35, 3) := by decide +kernel
theorem d_M_size_5 : decode b_M_size 5 = .ok (.aload_n 0, 1) := by decide +kernel
theorem d_M_size_6 : decode b_M_size 6 = .ok (.iload_n 1, 1) := by decide +kernel
theorem d_M_size_7 : decode b_M_size 7 = .ok (.invokevirtual 43, 3) := by decide +kernel
theorem d_M_size_10 : decode b_M_size 10 = .ok (.istore_n 2, 1) := by decide +kernel
theorem d_M_size_11 : decode b_M_size 11 = .ok (.iload_n 2, 1) := by decide +kernel
theorem d_M_size_12 : decode b_M_size 12 = .ok (.ifCond .ge 7, 3) := by decide +kernel
theorem d_M_size_15 : decode b_M_size 15 = .ok (.iconst 0, 1) := by decide +kernel
theorem d_M_size_16 : decode b_M_size 16 = .ok (.goto 9, 3) := by decide +kernel
theorem d_M_size_19 : decode b_M_size 19 = .ok (.aload_n 0, 1) := by decide +kernel
theorem d_M_size_20 : decode b_M_size 20 = .ok (.getfield 19, 3) := by decide +kernel
theorem d_M_size_23 : decode b_M_size 23 = .ok (.iload_n 2, 1) := by decide +kernel
theorem d_M_size_24 : decode b_M_size 24 = .ok (.iaload, 1) := by decide +kernel
theorem d_M_size_25 : decode b_M_size 25 = .ok (.ireturn, 1) := by decide +kernel
theorem d_M_silent_0 : decode b_M_silent 0 = .ok (.aload_n 0, 1) := by decide +kernel
theorem d_M_silent_1 : decode b_M_silent 1 = .ok (.iconst 0, 1) := by decide +kernel
theorem d_M_silent_2 : decode b_M_silent 2 = .ok (.putfield 35, 3) := by decide +kernel
theorem d_M_silent_5 : decode b_M_silent 5 = .ok (.aload_n 0, 1) := by decide +kernel
theorem d_M_silent_6 : decode b_M_silent 6 = .ok (.iload_n 1, 1) := by decide +kernel
theorem d_M_silent_7 : decode b_M_silent 7 = .ok (.invokevirtual 43, 3) := by decide +kernel
theorem d_M_silent_10 : decode b_M_silent 10 = .ok (.istore_n 2, 1) := by decide +kernel
theorem d_M_silent_11 : decode b_M_silent 11 = .ok (.iload_n 2, 1) := by decide +kernel
theorem d_M_silent_12 : decode b_M_silent 12 = .ok (.ifCond .lt 16, 3) := by decide +kernel
theorem d_M_silent_15 : decode b_M_silent 15 = .ok (.aload_n 0, 1) := by decide +kernel
theorem d_M_silent_16 : decode b_M_silent 16 = .ok (.getfield 22, 3) := by decide +kernel
theorem d_M_silent_19 : decode b_M_silent 19 = .ok (.iload_n 2, 1) := by decide +kernel
theorem d_M_silent_20 : decode b_M_silent 20 = .ok (.baload, 1) := by decide +kernel
theorem d_M_silent_21 : decode b_M_silent 21 = .ok (.ifCond .eq 7, 3) := by decide +kernel
theorem d_M_silent_24 : decode b_M_silent 24 = .ok (.iconst 1, 1) := by decide +kernel
theorem d_M_silent_25 : decode b_M_silent 25 = .ok (.goto 4, 3) := by decide +kernel
theorem d_M_silent_28 : decode b_M_silent 28 = .ok (.iconst 0, 1) := by decide +kernel
theorem d_M_silent_29 : decode b_M_silent 29 = .ok (.ireturn, 1) := by decide +kernel
theorem d_M_block_0 : decode b_M_block 0 = .ok (.aload_n 0, 1) := by decide +kernel
theorem d_M_block_1 : decode b_M_block 1 = .ok (.iconst 0, 1) := by decide +kernel
theorem d_M_block_2 : decode b_M_block 2 = .ok (.putfield 35, 3) := by decide +kernel
theorem d_M_block_5 : decode b_M_block 5 = .ok (.iload_n 1, 1) := by decide +kernel
theorem d_M_block_6 : decode b_M_block 6 = .ok (.ifCond .lt 9, 3) := by decide +kernel
theorem d_M_block_9 : decode b_M_block 9 = .ok (.iload_n 1, 1) := by decide +kernel
theorem d_M_block_10 : decode b_M_block 10 = .ok (.bipush 15, 2) := by decide +kernel
theorem d_M_block_12 : decode b_M_block 12 = .ok (.if_icmp .le 7, 3) := by decide +kernel
theorem d_M_block_15 : decode b_M_block 15 = .ok (.iconst (-1), 1) := by decide +kernel
theorem d_M_block_16 : decode b_M_block 16 = .ok (.goto 30, 3) := by decide +kernel
theorem d_M_block_19 : decode b_M_block 19 = .ok (.aload_n 0, 1) := by decide +kernel
theorem d_M_block_20 : decode b_M_block 20 = .ok (.getfield 32, 3) := by decide +kernel
theorem d_M_block_23 : decode b_M_block 23 = .ok (.iload_n 1, 1) := by decide +kernel
theorem d_M_block_24 : decode b_M_block 24 = .ok (.baload, 1) := by decide +kernel
theorem d_M_block_25 : decode b_M_block 25 = .ok (.ifCond .eq 15, 3) := by decide +kernel
theorem d_M_block_28 : decode b_M_block 28 = .ok (.aload_n 0, 1) := by decide +kernel
theorem d_M_block_29 : decode b_M_block 29 = .ok (.getfield 29, 3) := by decide +kernel
theorem d_M_block_32 : decode b_M_block 32 = .ok (.iload_n 1, 1) := by decide +kernel
theorem d_M_block_33 : decode b_M_block 33 = .ok (.iaload, 1) := by decide +kernel
theorem d_M_block_34 : decode b_M_block 34 = .ok (.bipush 64, 2) := by decide +kernel
theorem d_M_block_36 : decode b_M_block 36 = .ok (.iadd, 1) := by decide +kernel
theorem d_M_block_37 : decode b_M_block 37 = .ok (.goto 9, 3) := by decide +kernel
theorem d_M_block_40 : decode b_M_block 40 = .ok (.aload_n 0, 1) := by decide +kernel
theorem d_M_block_41 : decode b_M_block 41 = .ok (.getfield 29, 3) := by decide +kernel
theorem d_M_block_44 : decode b_M_block 44 = .ok (.iload_n 1, 1) := by decide +kernel
theorem d_M_block_45 : decode b_M_block 45 = .ok (.iaload, 1) := by decide +kernel
theorem d_M_block_46 : decode b_M_block 46 = .ok (.ireturn, 1) := by decide +kernel
theorem d_M_empty_0 : decode b_M_empty 0 = .ok (.aload_n 0, 1) := by decide +kernel
theorem d_M_empty_1 : decode b_M_empty 1 = .ok (.iconst 0, 1) := by decide +kernel
theorem d_M_empty_2 : decode b_M_empty 2 = .ok (.putfield 35, 3) := by decide +kernel
theorem d_M_empty_5 : decode b_M_empty 5 = .ok (.iload_n 1, 1) := by decide +kernel
theorem d_M_empty_6 : decode b_M_empty 6 = .ok (.ifCond .lt 29, 3) := by decide +kernel
theorem d_M_empty_9 : decode b_M_empty 9 = .ok (.iload_n 1, 1) := by decide +kernel
theorem d_M_empty_10 : decode b_M_empty 10 = .ok (.bipush 15, 2) := by decide +kernel
theorem d_M_empty_12 : decode b_M_empty 12 = .ok (.if_icmp .gt 23, 3) := by decide +kernel
theorem d_M_empty_15 : decode b_M_empty 15 = .ok (.aload_n 0, 1) := by decide +kernel
theorem d_M_empty_16 : decode b_M_empty 16 = .ok (.getfield 29, 3) := by decide +kernel
theorem d_M_empty_19 : decode b_M_empty 19 = .ok (.iload_n 1, 1) := by decide +kernel
theorem d_M_empty_20 : decode b_M_empty 20 = .ok (.iaload, 1) := by decide +kernel
theorem d_M_empty_21 : decode b_M_empty 21 = .ok (.ifCond .eq 14, 3) := by decide +kernel
theorem d_M_empty_24 : decode b_M_empty 24 = .ok (.aload_n 0, 1) := by decide +kernel
theorem d_M_empty_25 : decode b_M_empty 25 = .ok (.getfield 29, 3) := by decide +kernel
theorem d_M_empty_28 : decode b_M_empty 28 = .ok (.iload_n 1, 1) := by decide +kernel
theorem d_M_empty_29 : decode b_M_empty 29 = .ok (.iaload, 1) := by decide +kernel
theorem d_M_empty_30 : decode b_M_empty 30 = .ok (.bipush 32, 2) := by decide +kernel
theorem d_M_empty_32 : decode b_M_empty 32 = .ok (.if_icmp .lt 5, 3) := by decide +kernel
theorem d_M_empty_35 : decode b_M_empty 35 = .ok (.iconst 0, 1) := by decide +kernel
theorem d_M_empty_36 : decode b_M_empty 36 = .ok (.ireturn, 1) := by decide +kernel
theorem d_M_empty_37 : decode b_M_empty 37 = .ok (.iconst 0, 1) := by decide +kernel
theorem d_M_empty_38 : decode b_M_empty 38 = .ok (.istore_n 2, 1) := by decide +kernel
theorem d_M_empty_39 : decode b_M_empty 39 = .ok (.bipush 32, 2) := by decide +kernel
theorem d_M_empty_41 : decode b_M_empty 41 = .ok (.iload_n 1, 1) := by decide +kernel
theorem d_M_empty_42 : decode b_M_empty 42 = .ok (.imul, 1) := by decide +kernel
theorem d_M_empty_43 : decode b_M_empty 43 = .ok (.istore_n 3, 1) := by decide +kernel
theorem d_M_empty_44 : decode b_M_empty 44 = .ok (.iload_n 3, 1) := by decide +kernel
theorem d_M_empty_45 : decode b_M_empty 45 = .ok (.bipush 32, 2) := by decide +kernel
theorem d_M_empty_47 : decode b_M_empty 47 = .ok (.iload_n 1, 1) := by decide +kernel
theorem d_M_empty_48 : decode b_M_empty 48 = .ok (.imul, 1) := by decide +kernel
theorem d_M_empty_49 : decode b_M_empty 49 = .ok (.bipush 32, 2) := by decide +kernel
theorem d_M_empty_51 : decode b_M_empty 51 = .ok (.iadd, 1) := by decide +kernel
theorem d_M_empty_52 : decode b_M_empty 52 = .ok (.if_icmp .ge 32, 3) := by decide +kernel
theorem d_M_empty_55 : decode b_M_empty 55 = .ok (.aload_n 0, 1) := by decide +kernel
theorem d_M_empty_56 : decode b_M_empty 56 = .ok (.getfield 16, 3) := by decide +kernel
theorem d_M_empty_59 : decode b_M_empty 59 = .ok (.iload_n 3, 1) := by decide +kernel
theorem d_M_empty_60 : decode b_M_empty 60 = .ok (.iaload, 1) := by decide +kernel
theorem d_M_empty_61 : decode b_M_empty 61 = .ok (.ifCond .ne 9, 3) := by decide +kernel
theorem d_M_empty_64 : decode b_M_empty 64 = .ok (.iload_n 2, 1) := by decide +kernel
theorem d_M_empty_65 : decode b_M_empty 65 = .ok (.iconst 1, 1) := by decide +kernel
theorem d_M_empty_66 : decode b_M_empty 66 = .ok (.iadd, 1) := by decide +kernel
theorem d_M_empty_67 : decode b_M_empty 67 = .ok (.goto 4, 3) := by decide +kernel
theorem d_M_empty_70 : decode b_M_empty 70 = .ok (.iload_n 2, 1) := by decide +kernel
theorem d_M_empty_71 : decode b_M_empty 71 = .ok (.istore_n 2, 1) := by decide +kernel
theorem d_M_empty_72 : decode b_M_empty 72 = .ok (.iload_n 3, 1) := by decide +kernel
theorem d_M_empty_73 : decode b_M_empty 73 = .ok (.aload_n 0, 1) := by decide +kernel
theorem d_M_empty_74 : decode b_M_empty 74 = .ok (.getfield 29, 3) := by decide +kernel
theorem d_M_empty_77 : decode b_M_empty 77 = .ok (.iload_n 1, 1) := by decide +kernel
theorem d_M_empty_78 : decode b_M_empty 78 = .ok (.iaload, 1) := by decide +kernel
theorem d_M_empty_79 : decode b_M_empty 79 = .ok (.iadd, 1) := by decide +kernel
theorem d_M_empty_80 : decode b_M_empty 80 = .ok (.istore_n 3, 1) := by decide +kernel
theorem d_M_empty_81 : decode b_M_empty 81 = .ok (.goto (-37), 3) := by decide +kernel
theorem d_M_empty_84 : decode b_M_empty 84 = .ok (.iload_n 2, 1) := by decide +kernel
theorem d_M_empty_85 : decode b_M_empty 85 = .ok (.ireturn, 1) := by decide +kernel
theorem d_M_objects_0 : decode b_M_objects 0 = .ok (.aload_n 0, 1) := by decide +kernel
theorem d_M_objects_1 : decode b_M_objects 1 = .ok (.iconst 0, 1) := by decide +kernel
theorem d_M_objects_2 : decode b_M_objects 2 = .ok (.putfield 35, 3) := by decide +kernel
theorem d_M_objects_5 : decode b_M_objects 5 = .ok (.iconst 0, 1) := by decide +kernel
theorem d_M_objects_6 : decode b_M_objects 6 = .ok (.istore_n 1, 1) := by decide +kernel
theorem d_M_objects_7 : decode b_M_objects 7 = .ok (.iconst 0, 1) := by decide +kernel
theorem d_M_objects_8 : decode b_M_objects 8 = .ok (.istore_n 2, 1) := by decide +kernel
theorem d_M_objects_9 : decode b_M_objects 9 = .ok (.iload_n 2, 1) := by decide +kernel
theorem d_M_objects_10 : decode b_M_objects 10 = .ok (.sipush 512, 3) := by decide +kernel
theorem d_M_objects_13 : decode b_M_objects 13 = .ok (.if_icmp .ge 29, 3) := by decide +kernel
theorem d_M_objects_16 : decode b_M_objects 16 = .ok (.aload_n 0, 1) := by decide +kernel
theorem d_M_objects_17 : decode b_M_objects 17 = .ok (.getfield 16, 3) := by decide +kernel
theorem d_M_objects_20 : decode b_M_objects 20 = .ok (.iload_n 2, 1) := by decide +kernel
theorem d_M_objects_21 : decode b_M_objects 21 = .ok (.iaload, 1) := by decide +kernel
theorem d_M_objects_22 : decode b_M_objects 22 = .ok (.iload_n 2, 1) := by decide +kernel
theorem d_M_objects_23 : decode b_M_objects 23 = .ok (.iconst 1, 1) := by decide +kernel
theorem d_M_objects_24 : decode b_M_objects 24 = .ok (.iadd, 1) := by decide +kernel
theorem d_M_objects_25 : decode b_M_objects 25 = .ok (.if_icmp .ne 9, 3) := by decide +kernel
theorem d_M_objects_28 : decode b_M_objects 28 = .ok (.iload_n 1, 1) := by decide +kernel
theorem d_M_objects_29 : decode b_M_objects 29 = .ok (.iconst 1, 1) := by decide +kernel
theorem d_M_objects_30 : decode b_M_objects 30 = .ok (.iadd, 1) := by decide +kernel
theorem d_M_objects_31 : decode b_M_objects 31 = .ok (.goto 4, 3) := by decide +kernel
theorem d_M_objects_34 : decode b_M_objects 34 = .ok (.iload_n 1, 1) := by decide +kernel
theorem d_M_objects_35 : decode b_M_objects 35 = .ok (.istore_n 1, 1) := by decide +kernel
theorem d_M_objects_36 : decode b_M_objects 36 = .ok (.iinc 2 1, 3) := by decide +kernel
theorem d_M_objects_39 : decode b_M_objects 39 = .ok (.goto (-30), 3) := by decide +kernel
theorem d_M_objects_42 : decode b_M_objects 42 = .ok (.iload_n 1, 1) := by decide +kernel
theorem d_M_objects_43 : decode b_M_objects 43 = .ok (.ireturn, 1) := by decide +kernel
theorem d_M_collections_0 : decode b_M_collections 0 = .ok (.aload_n 0, 1) := by decide +kernel
theorem d_M_collections_1 : decode b_M_collections 1 = .ok (.iconst 0, 1) := by decide +kernel
theorem d_M_collections_2 : decode b_M_collections 2 = .ok (.putfield 35, 3) := by decide +kernel
theorem d_M_collections_5 : decode b_M_collections 5 = .ok (.aload_n 0, 1) := by decide +kernel
theorem d_M_collections_6 : decode b_M_collections 6 = .ok (.getfield 53, 3) := by decide +kernel
theorem d_M_collections_9 : decode b_M_collections 9 = .ok (.ireturn, 1) := by decide +kernel
end
section
/-! the instructions, by a program -/
theorem d_L_allocate_0 : decode b_L_allocate 0 = .ok (.aload_n 3, 1) := by decide +kernel
theorem d_L_allocate_1 : decode b_L_allocate 1 = .ok (.iconst 0, 1) := by decide +kernel
theorem d_L_allocate_2 : decode b_L_allocate 2 = .ok (.aload_n 0, 1) := by decide +kernel
theorem d_L_allocate_3 : decode b_L_allocate 3 = .ok (.iload_n 1, 1) := by decide +kernel
theorem d_L_allocate_4 : decode b_L_allocate 4 = .ok (.iload_n 2, 1) := by decide +kernel
theorem d_L_allocate_5 : decode b_L_allocate 5 = .ok (.invokevirtual 7, 3) := by decide +kernel
theorem d_L_allocate_8 : decode b_L_allocate 8 = .ok (.i2l, 1) := by decide +kernel
theorem d_L_allocate_9 : decode b_L_allocate 9 = .ok (.lastore, 1) := by decide +kernel
theorem d_L_allocate_10 : decode b_L_allocate 10 = .ok (.goto 11, 3) := by decide +kernel
theorem d_L_allocate_13 : decode b_L_allocate 13 = .ok (.astore 4, 2) := by decide +kernel
theorem d_L_allocate_15 : decode b_L_allocate 15 = .ok (.iconst 1, 1) := by decide +kernel
theorem d_L_allocate_16 : decode b_L_allocate 16 = .ok (.ireturn, 1) := by decide +kernel
theorem d_L_allocate_17 : decode b_L_allocate 17 = .ok (.astore 4, 2) := by decide +kernel
theorem d_L_allocate_19 : decode b_L_allocate 19 = .ok (.iconst 2, 1) := by decide +kernel
theorem d_L_allocate_20 : decode b_L_allocate 20 = .ok (.ireturn, 1) := by decide +kernel
theorem d_L_allocate_21 : decode b_L_allocate 21 = .ok (.iconst 0, 1) := by decide +kernel
theorem d_L_allocate_22 : decode b_L_allocate 22 = .ok (.ireturn, 1) := by decide +kernel
theorem d_L_root_0 : decode b_L_root 0 = .ok (.aload_n 0, 1) := by decide +kernel
theorem d_L_root_1 : decode b_L_root 1 = .ok (.iload_n 1, 1) := by decide +kernel
theorem d_L_root_2 : decode b_L_root 2 = .ok (.iload_n 2, 1) := by decide +kernel
theorem d_L_root_3 : decode b_L_root 3 = .ok (.invokevirtual 17, 3) := by decide +kernel
theorem d_L_root_6 : decode b_L_root 6 = .ok (.goto 6, 3) := by decide +kernel
theorem d_L_root_9 : decode b_L_root 9 = .ok (.astore_n 3, 1) := by decide +kernel
theorem d_L_root_10 : decode b_L_root 10 = .ok (.iconst 1, 1) := by decide +kernel
theorem d_L_root_11 : decode b_L_root 11 = .ok (.ireturn, 1) := by decide +kernel
theorem d_L_root_12 : decode b_L_root 12 = .ok (.iconst 0, 1) := by decide +kernel
theorem d_L_root_13 : decode b_L_root 13 = .ok (.ireturn, 1) := by decide +kernel
theorem d_L_rooted_0 : decode b_L_rooted 0 = .ok (.aload_n 2, 1) := by decide +kernel
theorem d_L_rooted_1 : decode b_L_rooted 1 = .ok (.iconst 0, 1) := by decide +kernel
theorem d_L_rooted_2 : decode b_L_rooted 2 = .ok (.aload_n 0, 1) := by decide +kernel
theorem d_L_rooted_3 : decode b_L_rooted 3 = .ok (.iload_n 1, 1) := by decide +kernel
theorem d_L_rooted_4 : decode b_L_rooted 4 = .ok (.invokevirtual 23, 3) := by decide +kernel
theorem d_L_rooted_7 : decode b_L_rooted 7 = .ok (.i2l, 1) := by decide +kernel
theorem d_L_rooted_8 : decode b_L_rooted 8 = .ok (.lastore, 1) := by decide +kernel
theorem d_L_rooted_9 : decode b_L_rooted 9 = .ok (.goto 6, 3) := by decide +kernel
theorem d_L_rooted_12 : decode b_L_rooted 12 = .ok (.astore_n 3, 1) := by decide +kernel
theorem d_L_rooted_13 : decode b_L_rooted 13 = .ok (.iconst 1, 1) := by decide +kernel
theorem d_L_rooted_14 : decode b_L_rooted 14 = .ok (.ireturn, 1) := by decide +kernel
theorem d_L_rooted_15 : decode b_L_rooted 15 = .ok (.iconst 0, 1) := by decide +kernel
theorem d_L_rooted_16 : decode b_L_rooted 16 = .ok (.ireturn, 1) := by decide +kernel
theorem d_L_read_0 : decode b_L_read 0 = .ok (.aload_n 2, 1) := by decide +kernel
theorem d_L_read_1 : decode b_L_read 1 = .ok (.iconst 0, 1) := by decide +kernel
theorem d_L_read_2 : decode b_L_read 2 = .ok (.aload_n 0, 1) := by decide +kernel
theorem d_L_read_3 : decode b_L_read 3 = .ok (.iload_n 1, 1) := by decide +kernel
theorem d_L_read_4 : decode b_L_read 4 = .ok (.invokevirtual 27, 3) := by decide +kernel
theorem d_L_read_7 : decode b_L_read 7 = .ok (.i2l, 1) := by decide +kernel
theorem d_L_read_8 : decode b_L_read 8 = .ok (.lastore, 1) := by decide +kernel
theorem d_L_read_9 : decode b_L_read 9 = .ok (.goto 9, 3) := by decide +kernel
theorem d_L_read_12 : decode b_L_read 12 = .ok (.astore_n 3, 1) := by decide +kernel
theorem d_L_read_13 : decode b_L_read 13 = .ok (.iconst 1, 1) := by decide +kernel
theorem d_L_read_14 : decode b_L_read 14 = .ok (.ireturn, 1) := by decide +kernel
theorem d_L_read_15 : decode b_L_read 15 = .ok (.astore_n 3, 1) := by decide +kernel
theorem d_L_read_16 : decode b_L_read 16 = .ok (.iconst 2, 1) := by decide +kernel
theorem d_L_read_17 : decode b_L_read 17 = .ok (.ireturn, 1) := by decide +kernel
theorem d_L_read_18 : decode b_L_read 18 = .ok (.iconst 0, 1) := by decide +kernel
theorem d_L_read_19 : decode b_L_read 19 = .ok (.ireturn, 1) := by decide +kernel
theorem d_L_write_0 : decode b_L_write 0 = .ok (.aload_n 3, 1) := by decide +kernel
theorem d_L_write_1 : decode b_L_write 1 = .ok (.iconst 0, 1) := by decide +kernel
theorem d_L_write_2 : decode b_L_write 2 = .ok (.aload_n 0, 1) := by decide +kernel
theorem d_L_write_3 : decode b_L_write 3 = .ok (.iload_n 1, 1) := by decide +kernel
theorem d_L_write_4 : decode b_L_write 4 = .ok (.iload_n 2, 1) := by decide +kernel
theorem d_L_write_5 : decode b_L_write 5 = .ok (.invokevirtual 30, 3) := by decide +kernel
theorem d_L_write_8 : decode b_L_write 8 = .ok (.i2l, 1) := by decide +kernel
theorem d_L_write_9 : decode b_L_write 9 = .ok (.lastore, 1) := by decide +kernel
theorem d_L_write_10 : decode b_L_write 10 = .ok (.goto 11, 3) := by decide +kernel
theorem d_L_write_13 : decode b_L_write 13 = .ok (.astore 4, 2) := by decide +kernel
theorem d_L_write_15 : decode b_L_write 15 = .ok (.iconst 1, 1) := by decide +kernel
theorem d_L_write_16 : decode b_L_write 16 = .ok (.ireturn, 1) := by decide +kernel
theorem d_L_write_17 : decode b_L_write 17 = .ok (.astore 4, 2) := by decide +kernel
theorem d_L_write_19 : decode b_L_write 19 = .ok (.iconst 2, 1) := by decide +kernel
theorem d_L_write_20 : decode b_L_write 20 = .ok (.ireturn, 1) := by decide +kernel
theorem d_L_write_21 : decode b_L_write 21 = .ok (.iconst 0, 1) := by decide +kernel
theorem d_L_write_22 : decode b_L_write 22 = .ok (.ireturn, 1) := by decide +kernel
theorem d_L_law_0 : decode code 0 = .ok (.new 8, 3) := by decide +kernel
theorem d_L_law_3 : decode code 3 = .ok (.dup, 1) := by decide +kernel
theorem d_L_law_4 : decode code 4 = .ok (.invokespecial 34, 3) := by decide +kernel
theorem d_L_law_7 : decode code 7 = .ok (.astore_n 1, 1) := by decide +kernel
theorem d_L_law_8 : decode code 8 = .ok (.new 35, 3) := by decide +kernel
theorem d_L_law_11 : decode code 11 = .ok (.dup, 1) := by decide +kernel
theorem d_L_law_12 : decode code 12 = .ok (.invokespecial 37, 3) := by decide +kernel
theorem d_L_law_15 : decode code 15 = .ok (.astore_n 2, 1) := by decide +kernel
theorem d_L_law_16 : decode code 16 = .ok (.iconst 1, 1) := by decide +kernel
theorem d_L_law_17 : decode code 17 = .ok (.newarray .long, 2) := by decide +kernel
theorem d_L_law_19 : decode code 19 = .ok (.astore_n 3, 1) := by decide +kernel
theorem d_L_law_20 : decode code 20 = .ok (.iconst 0, 1) := by decide +kernel
theorem d_L_law_21 : decode code 21 = .ok (.istore 4, 2) := by decide +kernel
theorem d_L_law_23 : decode code 23 = .ok (.iload 4, 2) := by decide +kernel
theorem d_L_law_25 : decode code 25 = .ok (.aload_n 0, 1) := by decide +kernel
theorem d_L_law_26 : decode code 26 = .ok (.arraylength, 1) := by decide +kernel
theorem d_L_law_27 : decode code 27 = .ok (.iconst 3, 1) := by decide +kernel
theorem d_L_law_28 : decode code 28 = .ok (.isub, 1) := by decide +kernel
theorem d_L_law_29 : decode code 29 = .ok (.if_icmp .gt 557, 3) := by decide +kernel
theorem d_L_law_32 : decode code 32 = .ok (.aload_n 0, 1) := by decide +kernel
theorem d_L_law_33 : decode code 33 = .ok (.iload 4, 2) := by decide +kernel
theorem d_L_law_35 : decode code 35 = .ok (.iaload, 1) := by decide +kernel
theorem d_L_law_36 : decode code 36 = .ok (.bipush 15, 2) := by decide +kernel
theorem d_L_law_38 : decode code 38 = .ok (.iand, 1) := by decide +kernel
theorem d_L_law_39 : decode code 39 = .ok (.tableswitch 541 0 12 #[65, 149, 197, 253, 309, 377, 390, 415, 440, 465, 490, 515, 528], 65) := by decide +kernel
theorem d_L_law_104 : decode code 104 = .ok (.aload_n 1, 1) := by decide +kernel
theorem d_L_law_105 : decode code 105 = .ok (.aload_n 0, 1) := by decide +kernel
theorem d_L_law_106 : decode code 106 = .ok (.iload 4, 2) := by decide +kernel
theorem d_L_law_108 : decode code 108 = .ok (.iconst 1, 1) := by decide +kernel
theorem d_L_law_109 : decode code 109 = .ok (.iadd, 1) := by decide +kernel
theorem d_L_law_110 : decode code 110 = .ok (.iaload, 1) := by decide +kernel
theorem d_L_law_111 : decode code 111 = .ok (.aload_n 0, 1) := by decide +kernel
theorem d_L_law_112 : decode code 112 = .ok (.iload 4, 2) := by decide +kernel
theorem d_L_law_114 : decode code 114 = .ok (.iconst 2, 1) := by decide +kernel
theorem d_L_law_115 : decode code 115 = .ok (.iadd, 1) := by decide +kernel
theorem d_L_law_116 : decode code 116 = .ok (.iaload, 1) := by decide +kernel
theorem d_L_law_117 : decode code 117 = .ok (.ifCond .eq 7, 3) := by decide +kernel
theorem d_L_law_120 : decode code 120 = .ok (.iconst 1, 1) := by decide +kernel
theorem d_L_law_121 : decode code 121 = .ok (.goto 4, 3) := by decide +kernel
theorem d_L_law_124 : decode code 124 = .ok (.iconst 0, 1) := by decide +kernel
theorem d_L_law_125 : decode code 125 = .ok (.aload_n 3, 1) := by decide +kernel
theorem d_L_law_126 : decode code 126 = .ok (.invokestatic 38, 3) := by decide +kernel
theorem d_L_law_129 : decode code 129 = .ok (.istore 5, 2) := by decide +kernel
theorem d_L_law_131 : decode code 131 = .ok (.aload_n 2, 1) := by decide +kernel
theorem d_L_law_132 : decode code 132 = .ok (.aload_n 0, 1) := by decide +kernel
theorem d_L_law_133 : decode code 133 = .ok (.iload 4, 2) := by decide +kernel
theorem d_L_law_135 : decode code 135 = .ok (.iconst 1, 1) := by decide +kernel
theorem d_L_law_136 : decode code 136 = .ok (.iadd, 1) := by decide +kernel
theorem d_L_law_137 : decode code 137 = .ok (.iaload, 1) := by decide +kernel
theorem d_L_law_138 : decode code 138 = .ok (.aload_n 0, 1) := by decide +kernel
theorem d_L_law_139 : decode code 139 = .ok (.iload 4, 2) := by decide +kernel
theorem d_L_law_141 : decode code 141 = .ok (.iconst 2, 1) := by decide +kernel
theorem d_L_law_142 : decode code 142 = .ok (.iadd, 1) := by decide +kernel
theorem d_L_law_143 : decode code 143 = .ok (.iaload, 1) := by decide +kernel
theorem d_L_law_144 : decode code 144 = .ok (.ifCond .eq 7, 3) := by decide +kernel
theorem d_L_law_147 : decode code 147 = .ok (.iconst 1, 1) := by decide +kernel
theorem d_L_law_148 : decode code 148 = .ok (.goto 4, 3) := by decide +kernel
theorem d_L_law_151 : decode code 151 = .ok (.iconst 0, 1) := by decide +kernel
theorem d_L_law_152 : decode code 152 = .ok (.invokevirtual 43, 3) := by decide +kernel
theorem d_L_law_155 : decode code 155 = .ok (.istore 6, 2) := by decide +kernel
theorem d_L_law_157 : decode code 157 = .ok (.aload_n 2, 1) := by decide +kernel
theorem d_L_law_158 : decode code 158 = .ok (.invokevirtual 44, 3) := by decide +kernel
theorem d_L_law_161 : decode code 161 = .ok (.iload 5, 2) := by decide +kernel
theorem d_L_law_163 : decode code 163 = .ok (.if_icmp .eq 5, 3) := by decide +kernel
theorem d_L_law_166 : decode code 166 = .ok (.iconst 0, 1) := by decide +kernel
theorem d_L_law_167 : decode code 167 = .ok (.ireturn, 1) := by decide +kernel
theorem d_L_law_168 : decode code 168 = .ok (.iload 5, 2) := by decide +kernel
theorem d_L_law_170 : decode code 170 = .ok (.ifCond .ne 15, 3) := by decide +kernel
theorem d_L_law_173 : decode code 173 = .ok (.aload_n 3, 1) := by decide +kernel
theorem d_L_law_174 : decode code 174 = .ok (.iconst 0, 1) := by decide +kernel
theorem d_L_law_175 : decode code 175 = .ok (.laload, 1) := by decide +kernel
theorem d_L_law_176 : decode code 176 = .ok (.iload 6, 2) := by decide +kernel
theorem d_L_law_178 : decode code 178 = .ok (.i2l, 1) := by decide +kernel
theorem d_L_law_179 : decode code 179 = .ok (.lcmp, 1) := by decide +kernel
theorem d_L_law_180 : decode code 180 = .ok (.ifCond .eq 5, 3) := by decide +kernel
theorem d_L_law_183 : decode code 183 = .ok (.iconst 0, 1) := by decide +kernel
theorem d_L_law_184 : decode code 184 = .ok (.ireturn, 1) := by decide +kernel
theorem d_L_law_185 : decode code 185 = .ok (.goto 395, 3) := by decide +kernel
theorem d_L_law_188 : decode code 188 = .ok (.aload_n 1, 1) := by decide +kernel
theorem d_L_law_189 : decode code 189 = .ok (.aload_n 0, 1) := by decide +kernel
theorem d_L_law_190 : decode code 190 = .ok (.iload 4, 2) := by decide +kernel
theorem d_L_law_192 : decode code 192 = .ok (.iconst 1, 1) := by decide +kernel
theorem d_L_law_193 : decode code 193 = .ok (.iadd, 1) := by decide +kernel
theorem d_L_law_194 : decode code 194 = .ok (.iaload, 1) := by decide +kernel
theorem d_L_law_195 : decode code 195 = .ok (.aload_n 0, 1) := by decide +kernel
theorem d_L_law_196 : decode code 196 = .ok (.iload 4, 2) := by decide +kernel
theorem d_L_law_198 : decode code 198 = .ok (.iconst 2, 1) := by decide +kernel
theorem d_L_law_199 : decode code 199 = .ok (.iadd, 1) := by decide +kernel
theorem d_L_law_200 : decode code 200 = .ok (.iaload, 1) := by decide +kernel
theorem d_L_law_201 : decode code 201 = .ok (.invokestatic 48, 3) := by decide +kernel
theorem d_L_law_204 : decode code 204 = .ok (.istore 5, 2) := by decide +kernel
theorem d_L_law_206 : decode code 206 = .ok (.aload_n 2, 1) := by decide +kernel
theorem d_L_law_207 : decode code 207 = .ok (.aload_n 0, 1) := by decide +kernel
theorem d_L_law_208 : decode code 208 = .ok (.iload 4, 2) := by decide +kernel
theorem d_L_law_210 : decode code 210 = .ok (.iconst 1, 1) := by decide +kernel
theorem d_L_law_211 : decode code 211 = .ok (.iadd, 1) := by decide +kernel
theorem d_L_law_212 : decode code 212 = .ok (.iaload, 1) := by decide +kernel
theorem d_L_law_213 : decode code 213 = .ok (.aload_n 0, 1) := by decide +kernel
theorem d_L_law_214 : decode code 214 = .ok (.iload 4, 2) := by decide +kernel
theorem d_L_law_216 : decode code 216 = .ok (.iconst 2, 1) := by decide +kernel
theorem d_L_law_217 : decode code 217 = .ok (.iadd, 1) := by decide +kernel
theorem d_L_law_218 : decode code 218 = .ok (.iaload, 1) := by decide +kernel
theorem d_L_law_219 : decode code 219 = .ok (.invokevirtual 51, 3) := by decide +kernel
theorem d_L_law_222 : decode code 222 = .ok (.aload_n 2, 1) := by decide +kernel
theorem d_L_law_223 : decode code 223 = .ok (.invokevirtual 44, 3) := by decide +kernel
theorem d_L_law_226 : decode code 226 = .ok (.iload 5, 2) := by decide +kernel
theorem d_L_law_228 : decode code 228 = .ok (.if_icmp .eq 5, 3) := by decide +kernel
theorem d_L_law_231 : decode code 231 = .ok (.iconst 0, 1) := by decide +kernel
theorem d_L_law_232 : decode code 232 = .ok (.ireturn, 1) := by decide +kernel
theorem d_L_law_233 : decode code 233 = .ok (.goto 347, 3) := by decide +kernel
theorem d_L_law_236 : decode code 236 = .ok (.aload_n 1, 1) := by decide +kernel
theorem d_L_law_237 : decode code 237 = .ok (.aload_n 0, 1) := by decide +kernel
theorem d_L_law_238 : decode code 238 = .ok (.iload 4, 2) := by decide +kernel
theorem d_L_law_240 : decode code 240 = .ok (.iconst 1, 1) := by decide +kernel
theorem d_L_law_241 : decode code 241 = .ok (.iadd, 1) := by decide +kernel
theorem d_L_law_242 : decode code 242 = .ok (.iaload, 1) := by decide +kernel
theorem d_L_law_243 : decode code 243 = .ok (.aload_n 3, 1) := by decide +kernel
theorem d_L_law_244 : decode code 244 = .ok (.invokestatic 52, 3) := by decide +kernel
theorem d_L_law_247 : decode code 247 = .ok (.istore 5, 2) := by decide +kernel
theorem d_L_law_249 : decode code 249 = .ok (.aload_n 2, 1) := by decide +kernel
theorem d_L_law_250 : decode code 250 = .ok (.aload_n 0, 1) := by decide +kernel
theorem d_L_law_251 : decode code 251 = .ok (.iload 4, 2) := by decide +kernel
theorem d_L_law_253 : decode code 253 = .ok (.iconst 1, 1) := by decide +kernel
theorem d_L_law_254 : decode code 254 = .ok (.iadd, 1) := by decide +kernel
theorem d_L_law_255 : decode code 255 = .ok (.iaload, 1) := by decide +kernel
theorem d_L_law_256 : decode code 256 = .ok (.invokevirtual 55, 3) := by decide +kernel
theorem d_L_law_259 : decode code 259 = .ok (.istore 6, 2) := by decide +kernel
theorem d_L_law_261 : decode code 261 = .ok (.aload_n 2, 1) := by decide +kernel
theorem d_L_law_262 : decode code 262 = .ok (.invokevirtual 44, 3) := by decide +kernel
theorem d_L_law_265 : decode code 265 = .ok (.iload 5, 2) := by decide +kernel
theorem d_L_law_267 : decode code 267 = .ok (.if_icmp .eq 5, 3) := by decide +kernel
theorem d_L_law_270 : decode code 270 = .ok (.iconst 0, 1) := by decide +kernel
theorem d_L_law_271 : decode code 271 = .ok (.ireturn, 1) := by decide +kernel
theorem d_L_law_272 : decode code 272 = .ok (.iload 5, 2) := by decide +kernel
theorem d_L_law_274 : decode code 274 = .ok (.ifCond .ne 15, 3) := by decide +kernel
theorem d_L_law_277 : decode code 277 = .ok (.aload_n 3, 1) := by decide +kernel
theorem d_L_law_278 : decode code 278 = .ok (.iconst 0, 1) := by decide +kernel
theorem d_L_law_279 : decode code 279 = .ok (.laload, 1) := by decide +kernel
theorem d_L_law_280 : decode code 280 = .ok (.iload 6, 2) := by decide +kernel
theorem d_L_law_282 : decode code 282 = .ok (.i2l, 1) := by decide +kernel
theorem d_L_law_283 : decode code 283 = .ok (.lcmp, 1) := by decide +kernel
theorem d_L_law_284 : decode code 284 = .ok (.ifCond .eq 5, 3) := by decide +kernel
theorem d_L_law_287 : decode code 287 = .ok (.iconst 0, 1) := by decide +kernel
theorem d_L_law_288 : decode code 288 = .ok (.ireturn, 1) := by decide +kernel
theorem d_L_law_289 : decode code 289 = .ok (.goto 291, 3) := by decide +kernel
theorem d_L_law_292 : decode code 292 = .ok (.aload_n 1, 1) := by decide +kernel
theorem d_L_law_293 : decode code 293 = .ok (.aload_n 0, 1) := by decide +kernel
theorem d_L_law_294 : decode code 294 = .ok (.iload 4, 2) := by decide +kernel
theorem d_L_law_296 : decode code 296 = .ok (.iconst 1, 1) := by decide +kernel
theorem d_L_law_297 : decode code 297 = .ok (.iadd, 1) := by decide +kernel
theorem d_L_law_298 : decode code 298 = .ok (.iaload, 1) := by decide +kernel
theorem d_L_law_299 : decode code 299 = .ok (.aload_n 3, 1) := by decide +kernel
theorem d_L_law_300 : decode code 300 = .ok (.invokestatic 56, 3) := by decide +kernel
theorem d_L_law_303 : decode code 303 = .ok (.istore 5, 2) := by decide +kernel
theorem d_L_law_305 : decode code 305 = .ok (.aload_n 2, 1) := by decide +kernel
theorem d_L_law_306 : decode code 306 = .ok (.aload_n 0, 1) := by decide +kernel
theorem d_L_law_307 : decode code 307 = .ok (.iload 4, 2) := by decide +kernel
theorem d_L_law_309 : decode code 309 = .ok (.iconst 1, 1) := by decide +kernel
theorem d_L_law_310 : decode code 310 = .ok (.iadd, 1) := by decide +kernel
theorem d_L_law_311 : decode code 311 = .ok (.iaload, 1) := by decide +kernel
theorem d_L_law_312 : decode code 312 = .ok (.invokevirtual 58, 3) := by decide +kernel
theorem d_L_law_315 : decode code 315 = .ok (.istore 6, 2) := by decide +kernel
theorem d_L_law_317 : decode code 317 = .ok (.aload_n 2, 1) := by decide +kernel
theorem d_L_law_318 : decode code 318 = .ok (.invokevirtual 44, 3) := by decide +kernel
theorem d_L_law_321 : decode code 321 = .ok (.iload 5, 2) := by decide +kernel
theorem d_L_law_323 : decode code 323 = .ok (.if_icmp .eq 5, 3) := by decide +kernel
theorem d_L_law_326 : decode code 326 = .ok (.iconst 0, 1) := by decide +kernel
theorem d_L_law_327 : decode code 327 = .ok (.ireturn, 1) := by decide +kernel
theorem d_L_law_328 : decode code 328 = .ok (.iload 5, 2) := by decide +kernel
theorem d_L_law_330 : decode code 330 = .ok (.ifCond .ne 15, 3) := by decide +kernel
theorem d_L_law_333 : decode code 333 = .ok (.aload_n 3, 1) := by decide +kernel
theorem d_L_law_334 : decode code 334 = .ok (.iconst 0, 1) := by decide +kernel
theorem d_L_law_335 : decode code 335 = .ok (.laload, 1) := by decide +kernel
theorem d_L_law_336 : decode code 336 = .ok (.iload 6, 2) := by decide +kernel
theorem d_L_law_338 : decode code 338 = .ok (.i2l, 1) := by decide +kernel
theorem d_L_law_339 : decode code 339 = .ok (.lcmp, 1) := by decide +kernel
theorem d_L_law_340 : decode code 340 = .ok (.ifCond .eq 5, 3) := by decide +kernel
theorem d_L_law_343 : decode code 343 = .ok (.iconst 0, 1) := by decide +kernel
theorem d_L_law_344 : decode code 344 = .ok (.ireturn, 1) := by decide +kernel
theorem d_L_law_345 : decode code 345 = .ok (.goto 235, 3) := by decide +kernel
theorem d_L_law_348 : decode code 348 = .ok (.aload_n 1, 1) := by decide +kernel
theorem d_L_law_349 : decode code 349 = .ok (.aload_n 0, 1) := by decide +kernel
theorem d_L_law_350 : decode code 350 = .ok (.iload 4, 2) := by decide +kernel
theorem d_L_law_352 : decode code 352 = .ok (.iconst 1, 1) := by decide +kernel
theorem d_L_law_353 : decode code 353 = .ok (.iadd, 1) := by decide +kernel
theorem d_L_law_354 : decode code 354 = .ok (.iaload, 1) := by decide +kernel
theorem d_L_law_355 : decode code 355 = .ok (.aload_n 0, 1) := by decide +kernel
theorem d_L_law_356 : decode code 356 = .ok (.iload 4, 2) := by decide +kernel
theorem d_L_law_358 : decode code 358 = .ok (.iconst 2, 1) := by decide +kernel
theorem d_L_law_359 : decode code 359 = .ok (.iadd, 1) := by decide +kernel
theorem d_L_law_360 : decode code 360 = .ok (.iaload, 1) := by decide +kernel
theorem d_L_law_361 : decode code 361 = .ok (.aload_n 3, 1) := by decide +kernel
theorem d_L_law_362 : decode code 362 = .ok (.invokestatic 59, 3) := by decide +kernel
theorem d_L_law_365 : decode code 365 = .ok (.istore 5, 2) := by decide +kernel
theorem d_L_law_367 : decode code 367 = .ok (.aload_n 2, 1) := by decide +kernel
theorem d_L_law_368 : decode code 368 = .ok (.aload_n 0, 1) := by decide +kernel
theorem d_L_law_369 : decode code 369 = .ok (.iload 4, 2) := by decide +kernel
theorem d_L_law_371 : decode code 371 = .ok (.iconst 1, 1) := by decide +kernel
theorem d_L_law_372 : decode code 372 = .ok (.iadd, 1) := by decide +kernel
theorem d_L_law_373 : decode code 373 = .ok (.iaload, 1) := by decide +kernel
theorem d_L_law_374 : decode code 374 = .ok (.aload_n 0, 1) := by decide +kernel
theorem d_L_law_375 : decode code 375 = .ok (.iload 4, 2) := by decide +kernel
theorem d_L_law_377 : decode code 377 = .ok (.iconst 2, 1) := by decide +kernel
theorem d_L_law_378 : decode code 378 = .ok (.iadd, 1) := by decide +kernel
theorem d_L_law_379 : decode code 379 = .ok (.iaload, 1) := by decide +kernel
theorem d_L_law_380 : decode code 380 = .ok (.invokevirtual 62, 3) := by decide +kernel
theorem d_L_law_383 : decode code 383 = .ok (.istore 6, 2) := by decide +kernel
theorem d_L_law_385 : decode code 385 = .ok (.aload_n 2, 1) := by decide +kernel
theorem d_L_law_386 : decode code 386 = .ok (.invokevirtual 44, 3) := by decide +kernel
theorem d_L_law_389 : decode code 389 = .ok (.iload 5, 2) := by decide +kernel
theorem d_L_law_391 : decode code 391 = .ok (.if_icmp .eq 5, 3) := by decide +kernel
theorem d_L_law_394 : decode code 394 = .ok (.iconst 0, 1) := by decide +kernel
theorem d_L_law_395 : decode code 395 = .ok (.ireturn, 1) := by decide +kernel
theorem d_L_law_396 : decode code 396 = .ok (.iload 5, 2) := by decide +kernel
theorem d_L_law_398 : decode code 398 = .ok (.ifCond .ne 15, 3) := by decide +kernel
theorem d_L_law_401 : decode code 401 = .ok (.aload_n 3, 1) := by decide +kernel
theorem d_L_law_402 : decode code 402 = .ok (.iconst 0, 1) := by decide +kernel
theorem d_L_law_403 : decode code 403 = .ok (.laload, 1) := by decide +kernel
theorem d_L_law_404 : decode code 404 = .ok (.iload 6, 2) := by decide +kernel
theorem d_L_law_406 : decode code 406 = .ok (.i2l, 1) := by decide +kernel
theorem d_L_law_407 : decode code 407 = .ok (.lcmp, 1) := by decide +kernel
theorem d_L_law_408 : decode code 408 = .ok (.ifCond .eq 5, 3) := by decide +kernel
theorem d_L_law_411 : decode code 411 = .ok (.iconst 0, 1) := by decide +kernel
theorem d_L_law_412 : decode code 412 = .ok (.ireturn, 1) := by decide +kernel
theorem d_L_law_413 : decode code 413 = .ok (.goto 167, 3) := by decide +kernel
theorem d_L_law_416 : decode code 416 = .ok (.aload_n 1, 1) := by decide +kernel
theorem d_L_law_417 : decode code 417 = .ok (.invokevirtual 63, 3) := by decide +kernel
theorem d_L_law_420 : decode code 420 = .ok (.aload_n 2, 1) := by decide +kernel
theorem d_L_law_421 : decode code 421 = .ok (.invokevirtual 66, 3) := by decide +kernel
theorem d_L_law_424 : decode code 424 = .ok (.if_icmp .eq 156, 3) := by decide +kernel
theorem d_L_law_427 : decode code 427 = .ok (.iconst 0, 1) := by decide +kernel
theorem d_L_law_428 : decode code 428 = .ok (.ireturn, 1) := by decide +kernel
theorem d_L_law_429 : decode code 429 = .ok (.aload_n 1, 1) := by decide +kernel
theorem d_L_law_430 : decode code 430 = .ok (.aload_n 0, 1) := by decide +kernel
theorem d_L_law_431 : decode code 431 = .ok (.iload 4, 2) := by decide +kernel
theorem d_L_law_433 : decode code 433 = .ok (.iconst 1, 1) := by decide +kernel
theorem d_L_law_434 : decode code 434 = .ok (.iadd, 1) := by decide +kernel
theorem d_L_law_435 : decode code 435 = .ok (.iaload, 1) := by decide +kernel
theorem d_L_law_436 : decode code 436 = .ok (.invokevirtual 67, 3) := by decide +kernel
theorem d_L_law_439 : decode code 439 = .ok (.aload_n 2, 1) := by decide +kernel
theorem d_L_law_440 : decode code 440 = .ok (.aload_n 0, 1) := by decide +kernel
theorem d_L_law_441 : decode code 441 = .ok (.iload 4, 2) := by decide +kernel
theorem d_L_law_443 : decode code 443 = .ok (.iconst 1, 1) := by decide +kernel
theorem d_L_law_444 : decode code 444 = .ok (.iadd, 1) := by decide +kernel
theorem d_L_law_445 : decode code 445 = .ok (.iaload, 1) := by decide +kernel
theorem d_L_law_446 : decode code 446 = .ok (.invokevirtual 70, 3) := by decide +kernel
theorem d_L_law_449 : decode code 449 = .ok (.if_icmp .eq 131, 3) := by decide +kernel
theorem d_L_law_452 : decode code 452 = .ok (.iconst 0, 1) := by decide +kernel
theorem d_L_law_453 : decode code 453 = .ok (.ireturn, 1) := by decide +kernel
theorem d_L_law_454 : decode code 454 = .ok (.aload_n 1, 1) := by decide +kernel
theorem d_L_law_455 : decode code 455 = .ok (.aload_n 0, 1) := by decide +kernel
theorem d_L_law_456 : decode code 456 = .ok (.iload 4, 2) := by decide +kernel
theorem d_L_law_458 : decode code 458 = .ok (.iconst 1, 1) := by decide +kernel
theorem d_L_law_459 : decode code 459 = .ok (.iadd, 1) := by decide +kernel
theorem d_L_law_460 : decode code 460 = .ok (.iaload, 1) := by decide +kernel
theorem d_L_law_461 : decode code 461 = .ok (.invokevirtual 71, 3) := by decide +kernel
theorem d_L_law_464 : decode code 464 = .ok (.aload_n 2, 1) := by decide +kernel
theorem d_L_law_465 : decode code 465 = .ok (.aload_n 0, 1) := by decide +kernel
theorem d_L_law_466 : decode code 466 = .ok (.iload 4, 2) := by decide +kernel
theorem d_L_law_468 : decode code 468 = .ok (.iconst 1, 1) := by decide +kernel
theorem d_L_law_469 : decode code 469 = .ok (.iadd, 1) := by decide +kernel
theorem d_L_law_470 : decode code 470 = .ok (.iaload, 1) := by decide +kernel
theorem d_L_law_471 : decode code 471 = .ok (.invokevirtual 74, 3) := by decide +kernel
theorem d_L_law_474 : decode code 474 = .ok (.if_icmp .eq 106, 3) := by decide +kernel
theorem d_L_law_477 : decode code 477 = .ok (.iconst 0, 1) := by decide +kernel
theorem d_L_law_478 : decode code 478 = .ok (.ireturn, 1) := by decide +kernel
theorem d_L_law_479 : decode code 479 = .ok (.aload_n 1, 1) := by decide +kernel
theorem d_L_law_480 : decode code 480 = .ok (.aload_n 0, 1) := by decide +kernel
theorem d_L_law_481 : decode code 481 = .ok (.iload 4, 2) := by decide +kernel
theorem d_L_law_483 : decode code 483 = .ok (.iconst 1, 1) := by decide +kernel
theorem d_L_law_484 : decode code 484 = .ok (.iadd, 1) := by decide +kernel
theorem d_L_law_485 : decode code 485 = .ok (.iaload, 1) := by decide +kernel
theorem d_L_law_486 : decode code 486 = .ok (.invokevirtual 75, 3) := by decide +kernel
theorem d_L_law_489 : decode code 489 = .ok (.aload_n 2, 1) := by decide +kernel
theorem d_L_law_490 : decode code 490 = .ok (.aload_n 0, 1) := by decide +kernel
theorem d_L_law_491 : decode code 491 = .ok (.iload 4, 2) := by decide +kernel
theorem d_L_law_493 : decode code 493 = .ok (.iconst 1, 1) := by decide +kernel
theorem d_L_law_494 : decode code 494 = .ok (.iadd, 1) := by decide +kernel
theorem d_L_law_495 : decode code 495 = .ok (.iaload, 1) := by decide +kernel
theorem d_L_law_496 : decode code 496 = .ok (.invokevirtual 79, 3) := by decide +kernel
theorem d_L_law_499 : decode code 499 = .ok (.if_icmp .eq 81, 3) := by decide +kernel
theorem d_L_law_502 : decode code 502 = .ok (.iconst 0, 1) := by decide +kernel
theorem d_L_law_503 : decode code 503 = .ok (.ireturn, 1) := by decide +kernel
theorem d_L_law_504 : decode code 504 = .ok (.aload_n 1, 1) := by decide +kernel
theorem d_L_law_505 : decode code 505 = .ok (.aload_n 0, 1) := by decide +kernel
theorem d_L_law_506 : decode code 506 = .ok (.iload 4, 2) := by decide +kernel
theorem d_L_law_508 : decode code 508 = .ok (.iconst 1, 1) := by decide +kernel
theorem d_L_law_509 : decode code 509 = .ok (.iadd, 1) := by decide +kernel
theorem d_L_law_510 : decode code 510 = .ok (.iaload, 1) := by decide +kernel
theorem d_L_law_511 : decode code 511 = .ok (.invokevirtual 80, 3) := by decide +kernel
theorem d_L_law_514 : decode code 514 = .ok (.aload_n 2, 1) := by decide +kernel
theorem d_L_law_515 : decode code 515 = .ok (.aload_n 0, 1) := by decide +kernel
theorem d_L_law_516 : decode code 516 = .ok (.iload 4, 2) := by decide +kernel
theorem d_L_law_518 : decode code 518 = .ok (.iconst 1, 1) := by decide +kernel
theorem d_L_law_519 : decode code 519 = .ok (.iadd, 1) := by decide +kernel
theorem d_L_law_520 : decode code 520 = .ok (.iaload, 1) := by decide +kernel
theorem d_L_law_521 : decode code 521 = .ok (.invokevirtual 83, 3) := by decide +kernel
theorem d_L_law_524 : decode code 524 = .ok (.if_icmp .eq 56, 3) := by decide +kernel
theorem d_L_law_527 : decode code 527 = .ok (.iconst 0, 1) := by decide +kernel
theorem d_L_law_528 : decode code 528 = .ok (.ireturn, 1) := by decide +kernel
theorem d_L_law_529 : decode code 529 = .ok (.aload_n 1, 1) := by decide +kernel
theorem d_L_law_530 : decode code 530 = .ok (.aload_n 0, 1) := by decide +kernel
theorem d_L_law_531 : decode code 531 = .ok (.iload 4, 2) := by decide +kernel
theorem d_L_law_533 : decode code 533 = .ok (.iconst 1, 1) := by decide +kernel
theorem d_L_law_534 : decode code 534 = .ok (.iadd, 1) := by decide +kernel
theorem d_L_law_535 : decode code 535 = .ok (.iaload, 1) := by decide +kernel
theorem d_L_law_536 : decode code 536 = .ok (.invokevirtual 84, 3) := by decide +kernel
theorem d_L_law_539 : decode code 539 = .ok (.aload_n 2, 1) := by decide +kernel
theorem d_L_law_540 : decode code 540 = .ok (.aload_n 0, 1) := by decide +kernel
theorem d_L_law_541 : decode code 541 = .ok (.iload 4, 2) := by decide +kernel
theorem d_L_law_543 : decode code 543 = .ok (.iconst 1, 1) := by decide +kernel
theorem d_L_law_544 : decode code 544 = .ok (.iadd, 1) := by decide +kernel
theorem d_L_law_545 : decode code 545 = .ok (.iaload, 1) := by decide +kernel
theorem d_L_law_546 : decode code 546 = .ok (.invokevirtual 87, 3) := by decide +kernel
theorem d_L_law_549 : decode code 549 = .ok (.if_icmp .eq 31, 3) := by decide +kernel
theorem d_L_law_552 : decode code 552 = .ok (.iconst 0, 1) := by decide +kernel
theorem d_L_law_553 : decode code 553 = .ok (.ireturn, 1) := by decide +kernel
theorem d_L_law_554 : decode code 554 = .ok (.aload_n 1, 1) := by decide +kernel
theorem d_L_law_555 : decode code 555 = .ok (.invokevirtual 88, 3) := by decide +kernel
theorem d_L_law_558 : decode code 558 = .ok (.aload_n 2, 1) := by decide +kernel
theorem d_L_law_559 : decode code 559 = .ok (.invokevirtual 91, 3) := by decide +kernel
theorem d_L_law_562 : decode code 562 = .ok (.if_icmp .eq 18, 3) := by decide +kernel
theorem d_L_law_565 : decode code 565 = .ok (.iconst 0, 1) := by decide +kernel
theorem d_L_law_566 : decode code 566 = .ok (.ireturn, 1) := by decide +kernel
theorem d_L_law_567 : decode code 567 = .ok (.aload_n 1, 1) := by decide +kernel
theorem d_L_law_568 : decode code 568 = .ok (.invokevirtual 92, 3) := by decide +kernel
theorem d_L_law_571 : decode code 571 = .ok (.aload_n 2, 1) := by decide +kernel
theorem d_L_law_572 : decode code 572 = .ok (.invokevirtual 95, 3) := by decide +kernel
theorem d_L_law_575 : decode code 575 = .ok (.if_icmp .eq 5, 3) := by decide +kernel
theorem d_L_law_578 : decode code 578 = .ok (.iconst 0, 1) := by decide +kernel
theorem d_L_law_579 : decode code 579 = .ok (.ireturn, 1) := by decide +kernel
theorem d_L_law_580 : decode code 580 = .ok (.iinc 4 3, 3) := by decide +kernel
theorem d_L_law_583 : decode code 583 = .ok (.goto (-560), 3) := by decide +kernel
theorem d_L_law_586 : decode code 586 = .ok (.iconst 1, 1) := by decide +kernel
theorem d_L_law_587 : decode code 587 = .ok (.ireturn, 1) := by decide +kernel
end
section
/-! numbers of booleans and of starts; counting, the least of a kind -/
def zb_e (b : Bool) : Int32 := if b = true then 1 else 0
def zs_e (n : Nat) : Int32 := nI n - 1
theorem zb_t : zb_e true = 1 := rfl
theorem zb_f : zb_e false = 0 := rfl
theorem zb_z {b : Bool} (h : zb_e b = 0) : b = false := by
  cases b
  · rfl
  · exact absurd h (by decide)
theorem zb_nz {b : Bool} (h : ¬ zb_e b = 0) : b = true := by
  cases b
  · exact absurd rfl h
  · rfl
theorem zs_0 : zs_e 0 = -1 := by decide +kernel
theorem zs_s (n : Nat) : zs_e (n + 1) = nI n := nI_pred n
theorem zn_m1 {n : Nat} (h : n < 2 ^ 31) : ¬ nI n = -1 := by
  intro q
  have a := nI_toInt h
  rw [q] at a
  have e : (-1 : Int32).toInt = -1 := by decide
  omega
theorem zs_m1 {n : Nat} (h : n < 2 ^ 31) : zs_e n = -1 ↔ n = 0 := by
  cases n with
  | zero => exact ⟨fun _ => rfl, fun _ => zs_0⟩
  | succ k =>
    rw [zs_s]
    exact ⟨fun q => absurd q (zn_m1 (by omega)), fun q => by omega⟩
theorem zs_eq {n k : Nat} (hn : n < 2 ^ 31) (hk : k < 2 ^ 31) : zs_e n = nI k ↔ n = k + 1 := by
  cases n with
  | zero =>
    rw [zs_0]
    exact ⟨fun q => absurd q.symm (zn_m1 hk), fun q => by omega⟩
  | succ j =>
    rw [zs_s, nI_eq (by omega) hk]
    omega
theorem zs_lt {n : Nat} (h : n < 2 ^ 31) : zs_e n < 0 ↔ n = 0 := by
  cases n with
  | zero => exact ⟨fun _ => rfl, fun _ => by rw [zs_0]; decide⟩
  | succ k =>
    rw [zs_s]
    exact ⟨fun q => absurd q (nI_pos (by omega)), fun q => by omega⟩
noncomputable def cl_b (P : Prop) : Bool := @decide P (Classical.propDecidable P)
theorem cl_t {P : Prop} : cl_b P = true ↔ P := by
  unfold cl_b
  exact @decide_eq_true_iff P (Classical.propDecidable P)
theorem cl_f {P : Prop} : cl_b P = false ↔ ¬ P := by
  constructor
  · intro h q
    rw [cl_t.mpr q] at h
    cases h
  · intro h
    cases hb : cl_b P
    · rfl
    · exact absurd (cl_t.mp hb) h
theorem cl_e {P Q : Prop} (h : P ↔ Q) : cl_b P = cl_b Q := by rw [show P = Q from propext h]
theorem cl_ft {b : Bool} (h : ¬ b = true) : b = false := by cases b <;> simp_all
theorem cl_tf {b : Bool} (h : ¬ b = false) : b = true := by cases b <;> simp_all
/-- how many of the first n are P -/
def cn_t (P : Nat → Bool) : Nat → Nat
  | 0 => 0
  | n + 1 => cn_t P n + (if P n = true then 1 else 0)
theorem cn_le (P : Nat → Bool) (n : Nat) : cn_t P n ≤ n := by
  induction n with
  | zero => exact Nat.le_refl _
  | succ n ih =>
    simp only [cn_t]
    split <;> omega
theorem cn_ext {P Q : Nat → Bool} (n : Nat) (h : ∀ i, i < n → P i = Q i) : cn_t P n = cn_t Q n := by
  induction n with
  | zero => rfl
  | succ n ih =>
    simp only [cn_t]
    rw [ih (fun i hi => h i (by omega)), h n (by omega)]
theorem cn_lt {P : Nat → Bool} {k : Nat} (hP : P k = false) (n : Nat) : k < n → cn_t P n < n := by
  induction n with
  | zero => intro h; omega
  | succ n ih =>
    intro h
    simp only [cn_t]
    by_cases hk : k = n
    · subst hk
      have := cn_le P k
      rw [hP]
      simp
      omega
    · have := ih (by omega)
      split <;> omega
theorem cn_set {P Q : Nat → Bool} {k : Nat} (hP : P k = false) (hQ : Q k = true) (n : Nat) : k < n → (∀ i, i < n → i ≠ k → P i = Q i) → cn_t Q n = cn_t P n + 1 := by
  induction n with
  | zero => intro h; omega
  | succ n ih =>
    intro h hx
    simp only [cn_t]
    by_cases hk : k = n
    · subst hk
      rw [cn_ext k (fun i hi => (hx i (by omega) (by omega)).symm), hP, hQ]
      simp
    · rw [ih (by omega) (fun i hi => hx i (by omega)), hx n (by omega) (fun q => hk q.symm)]
      omega
theorem cn_z {P : Nat → Bool} (n : Nat) (h : ∀ i, i < n → P i = false) : cn_t P n = 0 := by
  induction n with
  | zero => rfl
  | succ n ih =>
    simp only [cn_t]
    rw [ih (fun i hi => h i (by omega)), h n (by omega)]
    simp
theorem cn_all {P : Nat → Bool} (n : Nat) (h : ∀ i, i < n → P i = true) : cn_t P n = n := by
  induction n with
  | zero => rfl
  | succ n ih =>
    simp only [cn_t]
    rw [ih (fun i hi => h i (by omega)), h n (by omega)]
    simp
theorem cn_run {Q : Nat → Bool} (a k : Nat) (v : Bool) : (∀ r, r < k → Q (a + r) = v) → cn_t Q (a + k) = cn_t Q a + (if v = true then k else 0) := by
  induction k with
  | zero => intro _; simp
  | succ k ih =>
    intro h
    have e : a + (k + 1) = (a + k) + 1 := by omega
    rw [e]
    simp only [cn_t]
    rw [ih (fun r hr => h r (by omega)), h k (by omega)]
    cases v <;> simp
    omega
theorem cn_mul {P Q : Nat → Bool} (k m : Nat) : (∀ t r, t < m → r < k → Q (t * k + r) = P t) → cn_t Q (m * k) = cn_t P m * k := by
  induction m with
  | zero => intro _; simp [cn_t]
  | succ m ih =>
    intro h
    rw [Nat.succ_mul, cn_run (m * k) k (P m) (fun r hr => h m r (by omega) hr), ih (fun t r ht hr => h t r (by omega) hr)]
    simp only [cn_t]
    cases P m <;> simp [Nat.add_mul]
theorem cn_mono {P Q : Nat → Bool} (n : Nat) (h : ∀ i, i < n → P i = true → Q i = true) : cn_t P n ≤ cn_t Q n := by
  induction n with
  | zero => exact Nat.le_refl _
  | succ n ih =>
    simp only [cn_t]
    have h1 := ih (fun i hi => h i (by omega))
    have h2 := h n (by omega)
    cases hp : P n
    · cases hq : Q n <;> simp <;> omega
    · rw [h2 hp]
      simp
      omega
/-- the least of the first n that is P; n where there is none -/
def le_a (P : Nat → Bool) : Nat → Nat
  | 0 => 0
  | n + 1 => if le_a P n < n then le_a P n else if P n = true then n else n + 1
theorem le_le (P : Nat → Bool) (n : Nat) : le_a P n ≤ n := by
  induction n with
  | zero => exact Nat.le_refl _
  | succ n ih =>
    simp only [le_a]
    split
    · omega
    · split <;> omega
theorem le_is {P : Nat → Bool} (n : Nat) : le_a P n < n → P (le_a P n) = true := by
  induction n with
  | zero => intro h; exact absurd h (Nat.lt_irrefl _)
  | succ n ih =>
    intro h
    simp only [le_a] at h ⊢
    by_cases h1 : le_a P n < n
    · rw [if_pos h1]
      exact ih h1
    · rw [if_neg h1] at h ⊢
      by_cases h2 : P n = true
      · rw [if_pos h2]
        exact h2
      · rw [if_neg h2] at h
        omega
theorem le_mn {P : Nat → Bool} {j : Nat} (n : Nat) : j < le_a P n → P j = false := by
  induction n with
  | zero => intro h; exact absurd h (Nat.not_lt_zero _)
  | succ n ih =>
    intro h
    simp only [le_a] at h
    have hl := le_le P n
    by_cases h1 : le_a P n < n
    · rw [if_pos h1] at h
      exact ih h
    · rw [if_neg h1] at h
      by_cases h2 : P n = true
      · rw [if_pos h2] at h
        exact ih (by omega)
      · rw [if_neg h2] at h
        by_cases hj : j < n
        · exact ih (by omega)
        · have e : j = n := by omega
          subst e
          exact cl_ft h2
theorem le_eq {P : Nat → Bool} {n k : Nat} (hk : k < n) (hP : P k = true) (hm : ∀ j, j < k → P j = false) : le_a P n = k := by
  have h1 : ¬ le_a P n < k := fun h => by
    have a := hm _ h
    rw [le_is (P := P) n (by omega)] at a
    cases a
  have h2 : ¬ k < le_a P n := fun h => by
    have a := le_mn n h
    rw [hP] at a
    cases a
  omega
theorem le_no {P : Nat → Bool} {n : Nat} (h : ∀ j, j < n → P j = false) : le_a P n = n := by
  have hl := le_le P n
  by_cases h1 : le_a P n < n
  · have a := h _ h1
    rw [le_is n h1] at a
    cases a
  · omega
theorem le_ge {P : Nat → Bool} {n : Nat} (h : ¬ le_a P n < n) : ∀ j, j < n → P j = false := fun j hj => le_mn n (by have := le_le P n; omega)
theorem le_ex {P Q : Nat → Bool} (n : Nat) (h : ∀ i, i < n → P i = Q i) : le_a P n = le_a Q n := by
  induction n with
  | zero => rfl
  | succ n ih =>
    simp only [le_a]
    rw [ih (fun i hi => h i (by omega)), h n (by omega)]
end
section
/-! the state and its invariant -/
def ad_b (w : Int32) : Bool := decide (4096 ≤ w.toInt ∧ w.toInt < 4608)
def ad_x (w : Int32) : Nat := (w.toInt - 4096).toNat
theorem ad_l {w : Int32} (h : ad_b w = true) : ad_x w < 512 ∧ w = nI (4096 + ad_x w) := by
  have h1 : 4096 ≤ w.toInt ∧ w.toInt < 4608 := of_decide_eq_true h
  have h2 : ad_x w < 512 := by unfold ad_x; omega
  refine ⟨h2, Int32.toInt_inj.mp ?_⟩
  rw [nI_toInt (by omega)]
  unfold ad_x
  omega
theorem ad_i {i : Nat} (h : i < 512) : ad_b (nI (4096 + i)) = true ∧ ad_x (nI (4096 + i)) = i := by
  have e : (nI (4096 + i)).toInt = ((4096 + i : Nat) : Int) := nI_toInt (by omega)
  constructor
  · unfold ad_b
    rw [e]
    exact decide_eq_true (by omega)
  · unfold ad_x
    rw [e]
    omega
def oa_n (ob : Nat → Nat) (w : Int32) : Nat := if ad_b w = true then ob (ad_x w) else 0
/-- roots, words, of each word its object's start + 1 or 0, at a start its length, a block's kind, at a start whether it is silent, doubtful, how many objects, how many collections -/
abbrev zz_T : Type := (Nat → Int32) × (Nat → Int32) × (Nat → Nat) × (Nat → Nat) × (Nat → Nat) × (Nat → Bool) × (Nat → Bool) × Nat × Nat
def iv_o (ob ln kd : Nat → Nat) : Prop := ∀ i, i < 512 → ∀ p, ob i = p + 1 → p ≤ i ∧ i < p + ln p ∧ p + ln p ≤ 512 ∧ p % 2 = 0 ∧ (∀ j, p ≤ j → j < p + ln p → ob j = p + 1) ∧
  ((kd (p / 32) = ln p ∧ (ln p = 2 ∨ ln p = 4 ∨ ln p = 8 ∨ ln p = 16) ∧ p % ln p = 0) ∨ (kd (p / 32) = 32 ∧ p % 32 = 0 ∧ ln p % 32 = 0 ∧ ∀ b, p / 32 < b → b < (p + ln p) / 32 → kd b = 33))
def iv_k (kd : Nat → Nat) : Prop := ∀ b, b < 16 → kd b = 0 ∨ kd b = 2 ∨ kd b = 4 ∨ kd b = 8 ∨ kd b = 16 ∨ kd b = 32 ∨ kd b = 33
def iv_f (ob kd : Nat → Nat) : Prop := ∀ i, i < 512 → kd (i / 32) = 0 → ob i = 0
def iv_l (ob kd : Nat → Nat) : Prop := ∀ i, i < 512 → 32 ≤ kd (i / 32) → ob i ≠ 0
def iv_w (ob : Nat → Nat) (wd : Nat → Int32) : Prop := ∀ i, i < 512 → ob i = 0 → wd i = 0
noncomputable def iv_c (ob : Nat → Nat) : Nat := cn_t (fun i => cl_b (ob i = i + 1)) 512
def iv_a (ob ln kd : Nat → Nat) (wd : Nat → Int32) (oc : Nat) : Prop := iv_o ob ln kd ∧ iv_k kd ∧ iv_f ob kd ∧ iv_l ob kd ∧ iv_w ob wd ∧ oc = iv_c ob
/-- every value of the tables is small -/
theorem iv_lt {ob ln kd : Nat → Nat} (ho : iv_o ob ln kd) {i : Nat} (hi : i < 512) : ob i < 513 := by
  cases h : ob i with
  | zero => omega
  | succ p =>
    have := ho i hi p h
    omega
theorem iv_kl {kd : Nat → Nat} (h : iv_k kd) {b : Nat} (hb : b < 16) : kd b < 34 := by
  rcases h b hb with e | e | e | e | e | e | e <;> omega
theorem iv_st {ob ln kd : Nat → Nat} (ho : iv_o ob ln kd) {i p : Nat} (hi : i < 512) (h : ob i = p + 1) : p < 512 ∧ ob p = p + 1 ∧ p + ln p ≤ 512 ∧ p % 2 = 0 ∧ 2 ≤ ln p := by
  obtain ⟨a1, a2, a3, a4, a5, a6⟩ := ho i hi p h
  refine ⟨by omega, a5 p (Nat.le_refl _) (by omega), a3, a4, ?_⟩
  rcases a6 with ⟨-, b2, -⟩ | ⟨-, -, b3, -⟩
  · rcases b2 with e | e | e | e <;> omega
  · omega
/-- the kind of a word's block, of a word in an object -/
theorem iv_kp {ob ln kd : Nat → Nat} (ho : iv_o ob ln kd) {i p : Nat} (hi : i < 512) (h : ob i = p + 1) : (kd (i / 32) = ln p ∧ i / 32 = p / 32 ∧ (ln p = 2 ∨ ln p = 4 ∨ ln p = 8 ∨ ln p = 16) ∧ p % ln p = 0) ∨ (32 ≤ kd (i / 32) ∧ p % 32 = 0 ∧ ln p % 32 = 0) := by
  obtain ⟨a1, a2, a3, a4, a5, a6⟩ := ho i hi p h
  rcases a6 with ⟨b1, b2, b3⟩ | ⟨b1, b2, b3, b4⟩
  · have e : i / 32 = p / 32 := by
      rcases b2 with e | e | e | e <;> rw [e] at a2 b3 <;> omega
    exact Or.inl ⟨by rw [e]; exact b1, e, b2, b3⟩
  · refine Or.inr ⟨?_, b2, b3⟩
    by_cases e : i / 32 = p / 32
    · rw [e, b1]
      exact Nat.le_refl _
    · rw [b4 (i / 32) (by omega) (by omega)]
      omega
/-- a slot is empty as a whole -/
theorem iv_slot {ob ln kd : Nat → Nat} (ho : iv_o ob ln kd) {i j s : Nat} (hi : i < 512) (hs : s = 2 ∨ s = 4 ∨ s = 8 ∨ s = 16) (hk : kd (i / 32) = s) (h0 : ob i = 0) (hj : j / s = i / s) : ob j = 0 := by
  cases hp : ob j with
  | zero => rfl
  | succ p =>
    exfalso
    have hj5 : j < 512 := by rcases hs with e | e | e | e <;> subst e <;> omega
    have hb : j / 32 = i / 32 := by rcases hs with e | e | e | e <;> subst e <;> omega
    obtain ⟨a1, a2, a3, a4, a5, a6⟩ := ho j hj5 p hp
    rcases iv_kp ho hj5 hp with ⟨b1, b2, b3, b4⟩ | ⟨b1, b2, b3⟩
    · rw [hb, hk] at b1
      rw [← b1] at a2 b4 a5
      have h1 : p ≤ i ∧ i < p + s := by
        rcases hs with e | e | e | e <;> subst e <;> omega
      have h2 := a5 i h1.1 h1.2
      omega
    · rw [hb, hk] at b1
      omega
/-- a block of a large object is that object's as a whole -/
theorem iv_big {ob ln kd : Nat → Nat} (ho : iv_o ob ln kd) {i j p : Nat} (hi : i < 512) (hk : 32 ≤ kd (i / 32)) (h : ob i = p + 1) (hj : j / 32 = i / 32) : ob j = p + 1 ∧ p ≤ 32 * (i / 32) ∧ 32 * (i / 32) < p + ln p := by
  obtain ⟨a1, a2, a3, a4, a5, a6⟩ := ho i hi p h
  rcases iv_kp ho hi h with ⟨b1, b2, b3, b4⟩ | ⟨b1, b2, b3⟩
  · rcases b3 with e | e | e | e <;> omega
  · exact ⟨a5 j (by omega) (by omega), by omega, by omega⟩
/-! finding room -/
def sz_f (n : Nat) : Nat := if n ≤ 2 then 2 else if n ≤ 4 then 4 else if n ≤ 8 then 8 else 16
def bk_f (n : Nat) : Nat := (n + 31) / 32
theorem sz_is (n : Nat) : sz_f n = 2 ∨ sz_f n = 4 ∨ sz_f n = 8 ∨ sz_f n = 16 := by
  unfold sz_f
  split
  · simp
  · split
    · simp
    · split <;> simp
def us_b (kd : Nat → Nat) (df : Nat → Bool) (f : Bool) (b : Nat) : Bool := decide (kd b = 0) && (f || !df b)
noncomputable def rn_b (kd : Nat → Nat) (df : Nat → Bool) (f : Bool) (c b : Nat) : Bool := cl_b (b + c ≤ 16 ∧ ∀ j, j < c → us_b kd df f (b + j) = true)
/-- the first block of a row of c blocks; 16: there is none -/
noncomputable def rm_b (kd : Nat → Nat) (df : Nat → Bool) (f : Bool) (c : Nat) : Nat := le_a (rn_b kd df f c) 16
/-- the first empty slot; 512: there is none -/
noncomputable def rm_s (ob kd : Nat → Nat) (s : Nat) : Nat := le_a (fun i => cl_b (kd (i / 32) = s ∧ ob i = 0)) 512
/-- the room for n words; 512: there is none -/
noncomputable def rm_n (ob kd : Nat → Nat) (df : Nat → Bool) (n : Nat) (f : Bool) : Nat :=
  if n ≤ 16 then (if rm_s ob kd (sz_f n) < 512 then rm_s ob kd (sz_f n) else 32 * rm_b kd df f 1) else 32 * rm_b kd df f (bk_f n)
theorem us_t {kd : Nat → Nat} {df : Nat → Bool} {f : Bool} {b : Nat} : us_b kd df f b = true ↔ kd b = 0 ∧ (f = true ∨ df b = false) := by
  unfold us_b
  cases f <;> cases df b <;> simp
theorem rm_bl (kd : Nat → Nat) (df : Nat → Bool) (f : Bool) (c : Nat) : rm_b kd df f c ≤ 16 := le_le (rn_b kd df f c) 16
theorem rm_bi {kd : Nat → Nat} {df : Nat → Bool} {f : Bool} {c : Nat} (h : rm_b kd df f c < 16) : rm_b kd df f c + c ≤ 16 ∧ ∀ j, j < c → kd (rm_b kd df f c + j) = 0 := by
  have h1 := cl_t.mp (le_is (P := rn_b kd df f c) 16 h)
  exact ⟨h1.1, fun j hj => (us_t.mp (h1.2 j hj)).1⟩
theorem rm_sl (ob kd : Nat → Nat) (s : Nat) : rm_s ob kd s ≤ 512 := le_le (fun i => cl_b (kd (i / 32) = s ∧ ob i = 0)) 512
theorem rm_si {ob kd : Nat → Nat} {s : Nat} (h : rm_s ob kd s < 512) : kd (rm_s ob kd s / 32) = s ∧ ob (rm_s ob kd s) = 0 := by
  have h1 := le_is (P := fun i => cl_b (kd (i / 32) = s ∧ ob i = 0)) 512 h
  exact cl_t.mp h1
theorem rm_sm {ob kd : Nat → Nat} {s j : Nat} (h : j < rm_s ob kd s) : ¬ (kd (j / 32) = s ∧ ob j = 0) := by
  have h1 := le_mn (P := fun i => cl_b (kd (i / 32) = s ∧ ob i = 0)) 512 h
  exact cl_f.mp h1
/-- it begins a slot -/
theorem rm_sa {ob ln kd : Nat → Nat} (ho : iv_o ob ln kd) {s : Nat} (hs : s = 2 ∨ s = 4 ∨ s = 8 ∨ s = 16) (h : rm_s ob kd s < 512) : rm_s ob kd s % s = 0 := by
  obtain ⟨h1, h2⟩ := rm_si h
  generalize hr : rm_s ob kd s = r at h h1 h2 ⊢
  by_cases hz : r % s = 0
  · exact hz
  · exfalso
    have hlt : r - r % s < r := by
      have : r % s ≤ r := Nat.mod_le _ _
      omega
    have hd : (r - r % s) / s = r / s := by
      rcases hs with e | e | e | e <;> subst e <;> omega
    have hb : (r - r % s) / 32 = r / 32 := by
      rcases hs with e | e | e | e <;> subst e <;> omega
    have h3 := iv_slot ho h hs h1 h2 hd
    exact rm_sm (ob := ob) (kd := kd) (s := s) (j := r - r % s) (by rw [hr]; exact hlt) ⟨by rw [hb]; exact h1, h3⟩
/-- what the reference looks for, slot by slot, is the same -/
theorem rm_sq {ob ln kd : Nat → Nat} (ho : iv_o ob ln kd) {s i : Nat} (hs : s = 2 ∨ s = 4 ∨ s = 8 ∨ s = 16) (hi : i < 512) (h1 : kd (i / 32) = s) (h2 : ob i = 0) (hm : ∀ j, j < i → j % 2 = 0 → ¬ (kd (j / 32) = s ∧ j % s = 0 ∧ ob j = 0)) : rm_s ob kd s = i := by
  refine le_eq (P := fun i => cl_b (kd (i / 32) = s ∧ ob i = 0)) hi (cl_t.mpr ⟨h1, h2⟩) (fun j hj => cl_f.mpr (fun hq => ?_))
  obtain ⟨q1, q2⟩ := hq
  have hle : j % s ≤ j := Nat.mod_le _ _
  have hd : (j - j % s) / s = j / s := by
    rcases hs with e | e | e | e <;> subst e <;> omega
  have hb : (j - j % s) / 32 = j / 32 := by
    rcases hs with e | e | e | e <;> subst e <;> omega
  have h3 := iv_slot ho (i := j) (by omega) hs q1 q2 hd
  refine hm (j - j % s) (by omega) ?_ ⟨by rw [hb]; exact q1, ?_, h3⟩
  · rcases hs with e | e | e | e <;> subst e <;> omega
  · rcases hs with e | e | e | e <;> subst e <;> omega
theorem rm_sn {ob ln kd : Nat → Nat} (ho : iv_o ob ln kd) {s : Nat} (hs : s = 2 ∨ s = 4 ∨ s = 8 ∨ s = 16) (hm : ∀ j, j < 512 → j % 2 = 0 → ¬ (kd (j / 32) = s ∧ j % s = 0 ∧ ob j = 0)) : ¬ rm_s ob kd s < 512 := by
  intro h
  obtain ⟨h1, h2⟩ := rm_si h
  have h3 := rm_sa ho hs h
  refine hm _ h ?_ ⟨h1, h3, h2⟩
  rcases hs with e | e | e | e <;> subst e <;> omega
end
section
/-! a new object -/
def ss_n (n : Nat) : Nat := if n ≤ 16 then sz_f n else bk_f n * 32
def st_ob (ob : Nat → Nat) (a z : Nat) : Nat → Nat := fun j => if a ≤ j ∧ j < a + z then a + 1 else ob j
def st_kd (kd : Nat → Nat) (a z n : Nat) : Nat → Nat := fun b => if a / 32 ≤ b ∧ 32 * b < a + z then (if n ≤ 16 then z else if b = a / 32 then 32 else 33) else kd b
def st_df (df : Nat → Bool) (a z : Nat) : Nat → Bool := fun b => if a / 32 ≤ b ∧ 32 * b < a + z then false else df b
theorem ss_s {n : Nat} (h : n ≤ 16) : ss_n n = sz_f n := by unfold ss_n; rw [if_pos h]
theorem ss_g {n : Nat} (h : ¬ n ≤ 16) : ss_n n = bk_f n * 32 := by unfold ss_n; rw [if_neg h]
/-- what is known of a room that was found -/
def rm_ok (ob kd : Nat → Nat) (n a : Nat) : Prop := a + ss_n n ≤ 512 ∧ a % 2 = 0 ∧ 2 ≤ ss_n n ∧ (∀ j, a ≤ j → j < a + ss_n n → ob j = 0) ∧
  ((n ≤ 16 ∧ ss_n n = sz_f n ∧ a % ss_n n = 0 ∧ (kd (a / 32) = 0 ∨ kd (a / 32) = ss_n n)) ∨ (¬ n ≤ 16 ∧ a % 32 = 0 ∧ ss_n n = bk_f n * 32 ∧ ∀ b, a / 32 ≤ b → 32 * b < a + ss_n n → kd b = 0))
theorem rm_fact {ob ln kd : Nat → Nat} {df : Nat → Bool} {f : Bool} {n : Nat} (ho : iv_o ob ln kd) (hf : iv_f ob kd) (h1 : 1 ≤ n) (h : rm_n ob kd df n f < 512) : rm_ok ob kd n (rm_n ob kd df n f) := by
  by_cases hn : n ≤ 16
  · have hs := sz_is n
    have hz := ss_s hn
    unfold rm_n at h ⊢
    rw [if_pos hn] at h ⊢
    by_cases hr : rm_s ob kd (sz_f n) < 512
    · rw [if_pos hr] at h ⊢
      obtain ⟨k1, k2⟩ := rm_si hr
      have k3 := rm_sa ho hs hr
      generalize rm_s ob kd (sz_f n) = r at hr h k1 k2 k3 ⊢
      unfold rm_ok
      rw [hz]
      generalize sz_f n = z at hs k1 k3 hz ⊢
      refine ⟨?_, ?_, ?_, fun j j1 j2 => iv_slot ho hr hs k1 k2 ?_, Or.inl ⟨hn, rfl, k3, Or.inr k1⟩⟩
      · rcases hs with e | e | e | e <;> subst e <;> omega
      · rcases hs with e | e | e | e <;> subst e <;> omega
      · rcases hs with e | e | e | e <;> subst e <;> omega
      · rcases hs with e | e | e | e <;> subst e <;> omega
    · rw [if_neg hr] at h ⊢
      have hb : rm_b kd df f 1 < 16 := by omega
      have k1 := (rm_bi hb).2 0 (by omega)
      rw [Nat.add_zero] at k1
      generalize rm_b kd df f 1 = b at h hb k1 ⊢
      have e0 : 32 * b / 32 = b := by omega
      unfold rm_ok
      rw [hz, e0]
      generalize sz_f n = z at hs hz ⊢
      refine ⟨?_, by omega, ?_, fun j j1 j2 => hf j ?_ ?_, Or.inl ⟨hn, rfl, ?_, Or.inl k1⟩⟩
      · rcases hs with e | e | e | e <;> subst e <;> omega
      · rcases hs with e | e | e | e <;> subst e <;> omega
      · rcases hs with e | e | e | e <;> subst e <;> omega
      · have e1 : j / 32 = b := by rcases hs with e | e | e | e <;> subst e <;> omega
        rw [e1]
        exact k1
      · rcases hs with e | e | e | e <;> subst e <;> omega
  · have hz := ss_g hn
    unfold rm_n at h ⊢
    rw [if_neg hn] at h ⊢
    have hb : rm_b kd df f (bk_f n) < 16 := by omega
    obtain ⟨k1, k2⟩ := rm_bi hb
    generalize rm_b kd df f (bk_f n) = b at h hb k1 k2 ⊢
    have e0 : 32 * b / 32 = b := by omega
    have hc : 1 ≤ bk_f n := by unfold bk_f; omega
    unfold rm_ok
    rw [hz, e0]
    generalize hcc : bk_f n = k at k1 k2 hc ⊢
    refine ⟨by omega, by omega, by omega, fun j j1 j2 => hf j (by omega) ?_, Or.inr ⟨hn, by omega, rfl, fun b' b1 b2 => ?_⟩⟩
    · have e1 := k2 (j / 32 - b) (by omega)
      rwa [show b + (j / 32 - b) = j / 32 by omega] at e1
    · have e1 := k2 (b' - b) (by omega)
      rwa [show b + (b' - b) = b' by omega] at e1
theorem st_in {ob : Nat → Nat} {a z j : Nat} (h : a ≤ j ∧ j < a + z) : st_ob ob a z j = a + 1 := if_pos h
theorem st_out {ob : Nat → Nat} {a z j : Nat} (h : ¬ (a ≤ j ∧ j < a + z)) : st_ob ob a z j = ob j := if_neg h
theorem st_cnt {ob kd : Nat → Nat} {n a : Nat} (h : rm_ok ob kd n a) : iv_c (st_ob ob a (ss_n n)) = iv_c ob + 1 := by
  obtain ⟨r1, r2, r3, r4, -⟩ := h
  unfold iv_c
  refine cn_set (k := a) (cl_f.mpr ?_) (cl_t.mpr ?_) 512 (by omega) (fun i hi hne => cl_e ?_)
  · rw [r4 a (Nat.le_refl _) (by omega)]
    omega
  · exact st_in ⟨Nat.le_refl _, by omega⟩
  · by_cases hin : a ≤ i ∧ i < a + ss_n n
    · rw [st_in hin, r4 i hin.1 hin.2]
      omega
    · rw [st_out hin]
theorem st_iv {ob ln kd : Nat → Nat} {wd : Nat → Int32} {oc n a : Nat} (hv : iv_a ob ln kd wd oc) (h1 : 1 ≤ n) (h : rm_ok ob kd n a) :
    iv_a (st_ob ob a (ss_n n)) (va_up ln a (ss_n n)) (st_kd kd a (ss_n n) n) wd (oc + 1) := by
  obtain ⟨ho, hk, hf, hl, hw, hc⟩ := hv
  have hcnt := st_cnt h
  obtain ⟨r1, r2, r3, r4, r5⟩ := h
  have hz16 : n ≤ 16 → ss_n n = 2 ∨ ss_n n = 4 ∨ ss_n n = 8 ∨ ss_n n = 16 := fun hn => by rw [ss_s hn]; exact sz_is n
  generalize hz : ss_n n = z at r1 r3 r4 r5 hcnt hz16 ⊢
  -- the kind of a block in which an old object lies
  have kold : ∀ i, i < 512 → ob i ≠ 0 → st_kd kd a z n (i / 32) = kd (i / 32) := by
    intro i hi hne
    unfold st_kd
    by_cases hb : a / 32 ≤ i / 32 ∧ 32 * (i / 32) < a + z
    · rw [if_pos hb]
      rcases r5 with ⟨s1, s2, s3, s4⟩ | ⟨s1, s2, s3, s4⟩
      · rw [if_pos s1]
        have e : i / 32 = a / 32 := by
          have := hz16 s1
          rcases this with e | e | e | e <;> subst e <;> omega
        rw [e]
        rcases s4 with q | q
        · exact absurd (hf i hi (by rw [e]; exact q)) hne
        · exact q.symm
      · exact absurd (hf i hi (s4 _ hb.1 hb.2)) hne
    · rw [if_neg hb]
  have klarge : ∀ b, b < 16 → 32 ≤ kd b → st_kd kd a z n b = kd b := by
    intro b hb h32
    have e : b = (32 * b) / 32 := by omega
    have := kold (32 * b) (by omega) (hl _ (by omega) (by rw [← e]; exact h32))
    rwa [← e] at this
  refine ⟨?_, ?_, ?_, ?_, ?_, by rw [hcnt, hc]⟩
  · intro i hi p hp
    by_cases hin : a ≤ i ∧ i < a + z
    · rw [st_in hin] at hp
      have e : a = p := by omega
      subst e
      have el : va_up ln a z a = z := va_up_self ln a z
      rw [el]
      refine ⟨hin.1, hin.2, r1, r2, fun j j1 j2 => st_in ⟨j1, j2⟩, ?_⟩
      have hka : ∀ b, a / 32 ≤ b → 32 * b < a + z → st_kd kd a z n b = (if n ≤ 16 then z else if b = a / 32 then 32 else 33) := fun b b1 b2 => if_pos ⟨b1, b2⟩
      rcases r5 with ⟨s1, s2, s3, s4⟩ | ⟨s1, s2, s3, s4⟩
      · refine Or.inl ⟨?_, hz16 s1, s3⟩
        rw [hka (a / 32) (Nat.le_refl _) (by omega), if_pos s1]
      · refine Or.inr ⟨?_, s2, by omega, fun b b1 b2 => ?_⟩
        · rw [hka (a / 32) (Nat.le_refl _) (by omega), if_neg s1, if_pos rfl]
        · rw [hka b (by omega) (by omega), if_neg s1, if_neg (by omega)]
    · rw [st_out hin] at hp
      obtain ⟨a1, a2, a3, a4, a5, a6⟩ := ho i hi p hp
      have hpp : ob p = p + 1 := a5 p (Nat.le_refl _) (by omega)
      have hne : p ≠ a := by
        intro e
        subst e
        have := r4 p (Nat.le_refl _) (by omega)
        omega
      have el : va_up ln a z p = ln p := va_up_ne ln z hne
      rw [el]
      have kp := kold p (by omega) (by omega)
      refine ⟨a1, a2, a3, a4, fun j j1 j2 => ?_, ?_⟩
      · have h5 := a5 j j1 j2
        rw [st_out]
        · exact h5
        · intro q
          have := r4 j q.1 q.2
          omega
      · rw [kp]
        rcases a6 with ⟨b1, b2, b3⟩ | ⟨b1, b2, b3, b4⟩
        · exact Or.inl ⟨b1, b2, b3⟩
        · refine Or.inr ⟨b1, b2, b3, fun b c1 c2 => ?_⟩
          have e := b4 b c1 c2
          rw [klarge b (by omega) (by rw [e]; omega)]
          exact e
  · intro b hb
    unfold st_kd
    split
    · split
      · rename_i s1
        rcases hz16 s1 with e | e | e | e <;> simp [e]
      · split <;> simp
    · exact hk b hb
  · intro i hi h0
    by_cases hin : a ≤ i ∧ i < a + z
    · exfalso
      have e : st_kd kd a z n (i / 32) = (if n ≤ 16 then z else if i / 32 = a / 32 then 32 else 33) := if_pos ⟨by omega, by omega⟩
      rw [e] at h0
      split at h0
      · omega
      · split at h0 <;> omega
    · rw [st_out hin]
      by_cases hne : ob i = 0
      · exact hne
      · rw [kold i hi hne] at h0
        exact hf i hi h0
  · intro i hi h32
    by_cases hin : a ≤ i ∧ i < a + z
    · rw [st_in hin]
      omega
    · rw [st_out hin]
      by_cases hb : a / 32 ≤ i / 32 ∧ 32 * (i / 32) < a + z
      · exfalso
        have e : st_kd kd a z n (i / 32) = (if n ≤ 16 then z else if i / 32 = a / 32 then 32 else 33) := if_pos hb
        rcases r5 with ⟨s1, s2, s3, s4⟩ | ⟨s1, s2, s3, s4⟩
        · rw [e, if_pos s1] at h32
          rcases hz16 s1 with e | e | e | e <;> omega
        · omega
      · have e : st_kd kd a z n (i / 32) = kd (i / 32) := if_neg hb
        rw [e] at h32
        exact hl i hi h32
  · intro i hi h0
    by_cases hin : a ≤ i ∧ i < a + z
    · exact hw i hi (r4 i hin.1 hin.2)
    · rw [st_out hin] at h0
      exact hw i hi h0
end
section
/-! marking: what is looked at, what it marks, what becomes doubtful -/
/-- the words that are looked at when X is marked -/
def mk_s (rt wd : Nat → Int32) (ln : Nat → Nat) (qt : Nat → Bool) (X : Nat → Prop) (w : Int32) : Prop := (∃ r, r < 8 ∧ w = rt r) ∨ ∃ q j, X q ∧ qt q = false ∧ j < ln q ∧ w = wd (q + j)
def mk_d (ob kd : Nat → Nat) (w : Int32) (b : Nat) : Prop := ad_b w = true ∧ ob (ad_x w) = 0 ∧ kd (ad_x w / 32) = 0 ∧ ad_x w / 32 = b
def mk_c (rt wd : Nat → Int32) (ob ln : Nat → Nat) (qt : Nat → Bool) (X : Nat → Prop) : Prop := ∀ w p, mk_s rt wd ln qt X w → oa_n ob w = p + 1 → X p
/-- the fewest that agree -/
def mk_r (rt wd : Nat → Int32) (ob ln : Nat → Nat) (qt : Nat → Bool) (p : Nat) : Prop := ∀ X : Nat → Prop, mk_c rt wd ob ln qt X → X p
theorem mk_sm {rt wd : Nat → Int32} {ln : Nat → Nat} {qt : Nat → Bool} {X Y : Nat → Prop} (h : ∀ q, X q → Y q) {w : Int32} (hs : mk_s rt wd ln qt X w) : mk_s rt wd ln qt Y w := by
  rcases hs with h1 | ⟨q, j, h1, h2⟩
  · exact Or.inl h1
  · exact Or.inr ⟨q, j, h q h1, h2⟩
theorem mk_rc (rt wd : Nat → Int32) (ob ln : Nat → Nat) (qt : Nat → Bool) : mk_c rt wd ob ln qt (mk_r rt wd ob ln qt) := fun w p hs hp X hX => hX w p (mk_sm (fun q hq => hq X hX) hs) hp
/-- marked and doubtful are what the words P that were looked at say -/
def mk_i (ob kd : Nat → Nat) (mk df : Nat → Bool) (P : Int32 → Prop) : Prop := (∀ p, mk p = true ↔ ∃ w, P w ∧ oa_n ob w = p + 1) ∧ ∀ b, df b = true ↔ ∃ w, P w ∧ mk_d ob kd w b
theorem mk_i0 (ob kd : Nat → Nat) : mk_i ob kd (fun _ => false) (fun _ => false) (fun _ => False) := by
  refine ⟨fun p => ⟨fun h => (by cases h), fun ⟨w, h, _⟩ => h.elim⟩, fun p => ⟨fun h => (by cases h), fun ⟨w, h, _⟩ => h.elim⟩⟩
theorem mk_ix {ob kd : Nat → Nat} {mk mk' df df' : Nat → Bool} {P P' : Int32 → Prop} (h : mk_i ob kd mk df P) (h1 : ∀ p, mk' p = mk p) (h2 : ∀ b, df' b = df b) (h3 : ∀ w, P' w ↔ P w) : mk_i ob kd mk' df' P' := by
  refine ⟨fun p => ?_, fun b => ?_⟩
  · rw [h1, h.1 p]
    exact ⟨fun ⟨w, a, b⟩ => ⟨w, (h3 w).mpr a, b⟩, fun ⟨w, a, b⟩ => ⟨w, (h3 w).mp a, b⟩⟩
  · rw [h2, h.2 b]
    exact ⟨fun ⟨w, a, b⟩ => ⟨w, (h3 w).mpr a, b⟩, fun ⟨w, a, b⟩ => ⟨w, (h3 w).mp a, b⟩⟩
/-- a word that is no address, or of no object and in no free block -/
theorem mk_no {ob kd : Nat → Nat} {mk df : Nat → Bool} {P : Int32 → Prop} {w : Int32} (h : mk_i ob kd mk df P) (h0 : oa_n ob w = 0) (hd : ∀ b, ¬ mk_d ob kd w b) : mk_i ob kd mk df (fun v => P v ∨ v = w) := by
  refine ⟨fun p => ?_, fun b => ?_⟩
  · rw [h.1 p]
    refine ⟨fun ⟨v, a, e⟩ => ⟨v, Or.inl a, e⟩, fun ⟨v, a, e⟩ => ?_⟩
    rcases a with a | a
    · exact ⟨v, a, e⟩
    · subst a
      omega
  · rw [h.2 b]
    refine ⟨fun ⟨v, a, e⟩ => ⟨v, Or.inl a, e⟩, fun ⟨v, a, e⟩ => ?_⟩
    rcases a with a | a
    · exact ⟨v, a, e⟩
    · subst a
      exact absurd e (hd b)
theorem mk_na {ob kd : Nat → Nat} {mk df : Nat → Bool} {P : Int32 → Prop} {w : Int32} (h : mk_i ob kd mk df P) (ha : ad_b w = false) : mk_i ob kd mk df (fun v => P v ∨ v = w) := by
  refine mk_no h ?_ (fun b hb => ?_)
  · unfold oa_n
    rw [ha]
    rfl
  · have := hb.1
    rw [ha] at this
    cases this
theorem mk_hit {ob kd : Nat → Nat} {mk df : Nat → Bool} {P : Int32 → Prop} {w : Int32} {p : Nat} (h : mk_i ob kd mk df P) (hp : oa_n ob w = p + 1) : mk_i ob kd (va_up mk p true) df (fun v => P v ∨ v = w) := by
  refine ⟨fun q => ?_, fun b => ?_⟩
  · by_cases e : q = p
    · subst e
      rw [va_up_self]
      exact ⟨fun _ => ⟨w, Or.inr rfl, hp⟩, fun _ => rfl⟩
    · rw [va_up_ne mk true e, h.1 q]
      refine ⟨fun ⟨v, a, e⟩ => ⟨v, Or.inl a, e⟩, fun ⟨v, a, e2⟩ => ?_⟩
      rcases a with a | a
      · exact ⟨v, a, e2⟩
      · subst a
        omega
  · rw [h.2 b]
    refine ⟨fun ⟨v, a, e⟩ => ⟨v, Or.inl a, e⟩, fun ⟨v, a, e⟩ => ?_⟩
    rcases a with a | a
    · exact ⟨v, a, e⟩
    · subst a
      obtain ⟨e1, e2, -⟩ := e
      unfold oa_n at hp
      rw [if_pos e1] at hp
      omega
theorem mk_had {ob kd : Nat → Nat} {mk df : Nat → Bool} {P : Int32 → Prop} {w : Int32} {p : Nat} (h : mk_i ob kd mk df P) (hp : oa_n ob w = p + 1) (hm : mk p = true) : mk_i ob kd mk df (fun v => P v ∨ v = w) := by
  refine mk_ix (mk_hit h hp) (fun q => ?_) (fun _ => rfl) (fun _ => Iff.rfl)
  by_cases e : q = p
  · subst e
    rw [va_up_self]
    exact hm
  · rw [va_up_ne mk true e]
theorem mk_dbt {ob kd : Nat → Nat} {mk df : Nat → Bool} {P : Int32 → Prop} {w : Int32} (h : mk_i ob kd mk df P) (h1 : ad_b w = true) (h2 : ob (ad_x w) = 0) (h3 : kd (ad_x w / 32) = 0) : mk_i ob kd mk (va_up df (ad_x w / 32) true) (fun v => P v ∨ v = w) := by
  refine ⟨fun p => ?_, fun b => ?_⟩
  · rw [h.1 p]
    refine ⟨fun ⟨v, a, e⟩ => ⟨v, Or.inl a, e⟩, fun ⟨v, a, e⟩ => ?_⟩
    rcases a with a | a
    · exact ⟨v, a, e⟩
    · subst a
      unfold oa_n at e
      rw [if_pos h1] at e
      omega
  · by_cases e : b = ad_x w / 32
    · subst e
      rw [va_up_self]
      exact ⟨fun _ => ⟨w, Or.inr rfl, h1, h2, h3, rfl⟩, fun _ => rfl⟩
    · rw [va_up_ne df true e, h.2 b]
      refine ⟨fun ⟨v, a, e⟩ => ⟨v, Or.inl a, e⟩, fun ⟨v, a, e2⟩ => ?_⟩
      rcases a with a | a
      · exact ⟨v, a, e2⟩
      · subst a
        exact absurd e2.2.2.2.symm e
/-- the end of a marking: what is marked is just what must be -/
theorem mk_end {rt wd : Nat → Int32} {ob ln kd : Nat → Nat} {qt mk df : Nat → Bool} {P : Int32 → Prop} (h : mk_i ob kd mk df P) (hs : ∀ w, P w → mk_s rt wd ln qt (mk_r rt wd ob ln qt) w) (hc : ∀ w, mk_s rt wd ln qt (fun p => mk p = true) w → P w) :
    (∀ p, mk p = true ↔ mk_r rt wd ob ln qt p) ∧ ∀ b, df b = true ↔ ∃ w, mk_s rt wd ln qt (mk_r rt wd ob ln qt) w ∧ mk_d ob kd w b := by
  have h1 : ∀ p, mk p = true ↔ mk_r rt wd ob ln qt p := fun p => by
    refine ⟨fun hp => ?_, fun hp => hp (fun q => mk q = true) (fun w q hw hq => (h.1 q).mpr ⟨w, hc w hw, hq⟩)⟩
    obtain ⟨w, hw, e⟩ := (h.1 p).mp hp
    exact mk_rc rt wd ob ln qt w p (hs w hw) e
  refine ⟨h1, fun b => ?_⟩
  rw [h.2 b]
  exact ⟨fun ⟨w, a, e⟩ => ⟨w, hs w a, e⟩, fun ⟨w, a, e⟩ => ⟨w, hc w (mk_sm (fun q hq => (h1 q).mpr hq) a), e⟩⟩
/-! what a collection leaves -/
noncomputable def co_mk (rt wd : Nat → Int32) (ob ln : Nat → Nat) (qt : Nat → Bool) : Nat → Bool := fun p => cl_b (mk_r rt wd ob ln qt p)
def co_ob (ob : Nat → Nat) (mk : Nat → Bool) : Nat → Nat := fun i => if mk (ob i - 1) = true then ob i else 0
def co_wd (wd : Nat → Int32) (ob : Nat → Nat) (mk : Nat → Bool) : Nat → Int32 := fun i => if ob i ≠ 0 ∧ mk (ob i - 1) = false then 0 else wd i
def co_br (ob : Nat → Nat) (b : Nat) : Prop := ∀ j, j < 32 → ob (32 * b + j) = 0
noncomputable def co_kd (kd ob : Nat → Nat) : Nat → Nat := fun b => if cl_b (co_br ob b) = true then 0 else kd b
noncomputable def co_df (rt wd : Nat → Int32) (ob ln kd : Nat → Nat) (qt : Nat → Bool) : Nat → Bool := fun b => cl_b (∃ w, mk_s rt wd ln qt (mk_r rt wd ob ln qt) w ∧ mk_d ob kd w b)
theorem co_ob_p {ob : Nat → Nat} {mk : Nat → Bool} {i p : Nat} : co_ob ob mk i = p + 1 ↔ ob i = p + 1 ∧ mk p = true := by
  unfold co_ob
  constructor
  · intro h
    split at h
    · rename_i h1
      rw [h] at h1
      exact ⟨h, h1⟩
    · omega
  · intro h
    rw [h.1, show p + 1 - 1 = p by omega, if_pos h.2]
theorem co_ob_0 {ob : Nat → Nat} {mk : Nat → Bool} {i : Nat} (h : ob i = 0) : co_ob ob mk i = 0 := by
  unfold co_ob
  rw [h]
  split <;> rfl
theorem co_nb {ob : Nat → Nat} {i : Nat} (h : co_br ob (i / 32)) : ob i = 0 := by
  have e := h (i % 32) (by omega)
  rwa [show 32 * (i / 32) + i % 32 = i by omega] at e
theorem co_kd_n {kd ob : Nat → Nat} {i : Nat} (h : ob i ≠ 0) : co_kd kd ob (i / 32) = kd (i / 32) := by
  unfold co_kd
  rw [if_neg]
  intro q
  exact h (co_nb (cl_t.mp q))
theorem co_iv {ob ln kd : Nat → Nat} {wd : Nat → Int32} {oc : Nat} (mk : Nat → Bool) (hv : iv_a ob ln kd wd oc) : iv_a (co_ob ob mk) ln (co_kd kd (co_ob ob mk)) (co_wd wd ob mk) (iv_c (co_ob ob mk)) := by
  obtain ⟨ho, hk, hf, hl, hw, hc⟩ := hv
  refine ⟨?_, ?_, ?_, ?_, ?_, rfl⟩
  · intro i hi p hp
    obtain ⟨hp1, hp2⟩ := co_ob_p.mp hp
    obtain ⟨a1, a2, a3, a4, a5, a6⟩ := ho i hi p hp1
    have n5 : ∀ j, p ≤ j → j < p + ln p → co_ob ob mk j = p + 1 := fun j j1 j2 => co_ob_p.mpr ⟨a5 j j1 j2, hp2⟩
    have kp : co_kd kd (co_ob ob mk) (p / 32) = kd (p / 32) := co_kd_n (by rw [n5 p (Nat.le_refl _) (by omega)]; omega)
    refine ⟨a1, a2, a3, a4, n5, ?_⟩
    rw [kp]
    rcases a6 with ⟨b1, b2, b3⟩ | ⟨b1, b2, b3, b4⟩
    · exact Or.inl ⟨b1, b2, b3⟩
    · refine Or.inr ⟨b1, b2, b3, fun b c1 c2 => ?_⟩
      have e : b = (32 * b) / 32 := by omega
      have := co_kd_n (kd := kd) (ob := co_ob ob mk) (i := 32 * b) (by rw [n5 (32 * b) (by omega) (by omega)]; omega)
      rw [← e] at this
      rw [this]
      exact b4 b c1 c2
  · intro b hb
    unfold co_kd
    split
    · exact Or.inl rfl
    · exact hk b hb
  · intro i hi h0
    by_cases hne : co_ob ob mk i = 0
    · exact hne
    · rw [co_kd_n hne] at h0
      exact co_ob_0 (hf i hi h0)
  · intro i hi h32 h0
    have hnb : ¬ co_br (co_ob ob mk) (i / 32) := by
      intro q
      unfold co_kd at h32
      rw [if_pos (cl_t.mpr q)] at h32
      omega
    have hkd : 32 ≤ kd (i / 32) := by
      unfold co_kd at h32
      rwa [if_neg (fun q => hnb (cl_t.mp q))] at h32
    refine hnb (fun j hj => ?_)
    cases hp : co_ob ob mk (32 * (i / 32) + j) with
    | zero => rfl
    | succ p =>
      obtain ⟨p1, p2⟩ := co_ob_p.mp hp
      have hlt : 32 * (i / 32) + j < 512 := by omega
      have hb : i / 32 = (32 * (i / 32) + j) / 32 := by omega
      have := (iv_big ho hlt (by rw [← hb]; exact hkd) p1 (j := i) hb).1
      rw [co_ob_p.mpr ⟨this, p2⟩] at h0
      omega
  · intro i hi h0
    unfold co_wd
    by_cases h1 : ob i ≠ 0 ∧ mk (ob i - 1) = false
    · rw [if_pos h1]
    · rw [if_neg h1]
      refine hw i hi ?_
      unfold co_ob at h0
      split at h0
      · exact h0
      · rename_i h2
        by_cases h3 : ob i = 0
        · exact h3
        · exact absurd ⟨h3, cl_ft h2⟩ h1
end
section
/-! rows of instructions over natural numbers, booleans and starts -/
section NX
variable {p : Program} {l : Launch} {e : Env} {R : Room} {s : State} {m : MethodId} {args : Array Value} {below : List Frame} {meth : Method} {c : Code} {H : Heap} {locs : List Loc} {cells slots : Nat} {Q : State → Prop}
variable {cc : ByteArray} {pc : Nat} {ls : Array Slot} {rest : List Value} {D : va_G} {cl : List vw_C} {A : Nat → Prop} {a : Nat} {tys : List (ClassId × FieldType)} {ws : va_W} {H0 : Heap}
theorem nx_top {x y : Int32} (h : x = y) (k : W p l e R s m args below meth c H locs cells slots Q (F0 m pc ls (.int y :: rest))) : W p l e R s m args below meth c H locs cells slots Q (F0 m pc ls (.int x :: rest)) := by
  subst h
  exact k
theorem nx_tp2 {x y x2 y2 : Int32} (h : x = y) (h2 : x2 = y2) (k : W p l e R s m args below meth c H locs cells slots Q (F0 m pc ls (.int y :: .int y2 :: rest))) : W p l e R s m args below meth c H locs cells slots Q (F0 m pc ls (.int x :: .int x2 :: rest)) := by
  subst h
  subst h2
  exact k
theorem nx_iadd (hx : p.tables.exec = Jvm.exec) (hb : c.code = cc) {x y : Nat} (hdg : decode cc pc = .ok (.iadd, 1)) (k : W p l e R s m args below meth c H locs cells slots Q (F0 m (pc + 1) ls (.int (nI (x + y)) :: rest))) : W p l e R s m args below meth c H locs cells slots Q (F0 m pc ls (.int (nI y) :: .int (nI x) :: rest)) :=
  lv_iadd hx hb hdg (by rw [nI_add x y]; exact k)
theorem nx_isub (hx : p.tables.exec = Jvm.exec) (hb : c.code = cc) {x y : Nat} (hdg : decode cc pc = .ok (.isub, 1)) (hle : y ≤ x) (k : W p l e R s m args below meth c H locs cells slots Q (F0 m (pc + 1) ls (.int (nI (x - y)) :: rest))) : W p l e R s m args below meth c H locs cells slots Q (F0 m pc ls (.int (nI y) :: .int (nI x) :: rest)) :=
  lv_isub hx hb hdg (by rw [pk_sub hle]; exact k)
theorem nx_imul (hx : p.tables.exec = Jvm.exec) (hb : c.code = cc) {x y : Nat} (hdg : decode cc pc = .ok (.imul, 1)) (k : W p l e R s m args below meth c H locs cells slots Q (F0 m (pc + 1) ls (.int (nI (x * y)) :: rest))) : W p l e R s m args below meth c H locs cells slots Q (F0 m pc ls (.int (nI y) :: .int (nI x) :: rest)) :=
  lv_imul hx hb hdg (by rw [pk_mul x y]; exact k)
theorem nx_idiv (hx : p.tables.exec = Jvm.exec) (hb : c.code = cc) {x y : Nat} (hdg : decode cc pc = .ok (.idiv, 1)) (h1 : x < 2 ^ 31) (h2 : 0 < y) (h3 : y < 2 ^ 31) (k : W p l e R s m args below meth c H locs cells slots Q (F0 m (pc + 1) ls (.int (nI (x / y)) :: rest))) : W p l e R s m args below meth c H locs cells slots Q (F0 m pc ls (.int (nI y) :: .int (nI x) :: rest)) :=
  lv_idiv hx hb hdg (nI_ne0 h2 h3) (by rw [pk_div h1 h2 h3]; exact k)
theorem nx_irem (hx : p.tables.exec = Jvm.exec) (hb : c.code = cc) {x y : Nat} (hdg : decode cc pc = .ok (.irem, 1)) (h1 : x < 2 ^ 31) (h2 : 0 < y) (h3 : y < 2 ^ 31) (k : W p l e R s m args below meth c H locs cells slots Q (F0 m (pc + 1) ls (.int (nI (x % y)) :: rest))) : W p l e R s m args below meth c H locs cells slots Q (F0 m pc ls (.int (nI y) :: .int (nI x) :: rest)) :=
  lv_irem hx hb hdg (nI_ne0 h2 h3) (by rw [pk_rem h1 h2 h3]; exact k)
theorem nx_icmp_eq (hx : p.tables.exec = Jvm.exec) (hb : c.code = cc) {x y : Nat} {off : Int} {tgt : Nat} (hdg : decode cc pc = .ok (.if_icmp .eq off, 3)) (ht : (pc : Int) + off = (tgt : Int)) (h1 : x < 2 ^ 31) (h2 : y < 2 ^ 31)
    (kt : x = y → W p l e R s m args below meth c H locs cells slots Q (F0 m tgt ls rest)) (kf : x ≠ y → W p l e R s m args below meth c H locs cells slots Q (F0 m (pc + 3) ls rest)) : W p l e R s m args below meth c H locs cells slots Q (F0 m pc ls (.int (nI y) :: .int (nI x) :: rest)) :=
  lv_icmp_eq hx hb hdg ht (fun h => kt ((nI_eq h1 h2).mp h)) (fun h => kf (mt (nI_eq h1 h2).mpr h))
theorem nx_icmp_ne (hx : p.tables.exec = Jvm.exec) (hb : c.code = cc) {x y : Nat} {off : Int} {tgt : Nat} (hdg : decode cc pc = .ok (.if_icmp .ne off, 3)) (ht : (pc : Int) + off = (tgt : Int)) (h1 : x < 2 ^ 31) (h2 : y < 2 ^ 31)
    (kt : x ≠ y → W p l e R s m args below meth c H locs cells slots Q (F0 m tgt ls rest)) (kf : x = y → W p l e R s m args below meth c H locs cells slots Q (F0 m (pc + 3) ls rest)) : W p l e R s m args below meth c H locs cells slots Q (F0 m pc ls (.int (nI y) :: .int (nI x) :: rest)) :=
  lv_icmp_ne hx hb hdg ht (fun h => kt (mt (nI_eq h1 h2).mpr h)) (fun h => kf ((nI_eq h1 h2).mp h))
theorem nx_icmp_lt (hx : p.tables.exec = Jvm.exec) (hb : c.code = cc) {x y : Nat} {off : Int} {tgt : Nat} (hdg : decode cc pc = .ok (.if_icmp .lt off, 3)) (ht : (pc : Int) + off = (tgt : Int)) (h1 : x < 2 ^ 31) (h2 : y < 2 ^ 31)
    (kt : x < y → W p l e R s m args below meth c H locs cells slots Q (F0 m tgt ls rest)) (kf : y ≤ x → W p l e R s m args below meth c H locs cells slots Q (F0 m (pc + 3) ls rest)) : W p l e R s m args below meth c H locs cells slots Q (F0 m pc ls (.int (nI y) :: .int (nI x) :: rest)) :=
  lv_icmp_lt hx hb hdg ht (fun h => kt ((nI_ltI h1 h2).mp h)) (fun h => kf (by have q := mt (nI_ltI h1 h2).mpr h; omega))
theorem nx_icmp_ge (hx : p.tables.exec = Jvm.exec) (hb : c.code = cc) {x y : Nat} {off : Int} {tgt : Nat} (hdg : decode cc pc = .ok (.if_icmp .ge off, 3)) (ht : (pc : Int) + off = (tgt : Int)) (h1 : x < 2 ^ 31) (h2 : y < 2 ^ 31)
    (kt : y ≤ x → W p l e R s m args below meth c H locs cells slots Q (F0 m tgt ls rest)) (kf : x < y → W p l e R s m args below meth c H locs cells slots Q (F0 m (pc + 3) ls rest)) : W p l e R s m args below meth c H locs cells slots Q (F0 m pc ls (.int (nI y) :: .int (nI x) :: rest)) :=
  lv_icmp_ge hx hb hdg ht (fun h => kt ((nI_leI h2 h1).mp h)) (fun h => kf (by have q := mt (nI_leI h2 h1).mpr h; omega))
theorem nx_icmp_gt (hx : p.tables.exec = Jvm.exec) (hb : c.code = cc) {x y : Nat} {off : Int} {tgt : Nat} (hdg : decode cc pc = .ok (.if_icmp .gt off, 3)) (ht : (pc : Int) + off = (tgt : Int)) (h1 : x < 2 ^ 31) (h2 : y < 2 ^ 31)
    (kt : y < x → W p l e R s m args below meth c H locs cells slots Q (F0 m tgt ls rest)) (kf : x ≤ y → W p l e R s m args below meth c H locs cells slots Q (F0 m (pc + 3) ls rest)) : W p l e R s m args below meth c H locs cells slots Q (F0 m pc ls (.int (nI y) :: .int (nI x) :: rest)) :=
  lv_icmp_gt hx hb hdg ht (fun h => kt ((nI_ltI h2 h1).mp h)) (fun h => kf (by have q := mt (nI_ltI h2 h1).mpr h; omega))
theorem nx_icmp_le (hx : p.tables.exec = Jvm.exec) (hb : c.code = cc) {x y : Nat} {off : Int} {tgt : Nat} (hdg : decode cc pc = .ok (.if_icmp .le off, 3)) (ht : (pc : Int) + off = (tgt : Int)) (h1 : x < 2 ^ 31) (h2 : y < 2 ^ 31)
    (kt : x ≤ y → W p l e R s m args below meth c H locs cells slots Q (F0 m tgt ls rest)) (kf : y < x → W p l e R s m args below meth c H locs cells slots Q (F0 m (pc + 3) ls rest)) : W p l e R s m args below meth c H locs cells slots Q (F0 m pc ls (.int (nI y) :: .int (nI x) :: rest)) :=
  lv_icmp_le hx hb hdg ht (fun h => kt ((nI_leI h1 h2).mp h)) (fun h => kf (by have q := mt (nI_leI h1 h2).mpr h; omega))
theorem nx_if_eq_b (hx : p.tables.exec = Jvm.exec) (hb : c.code = cc) {b : Bool} {off : Int} {tgt : Nat} (hdg : decode cc pc = .ok (.ifCond .eq off, 3)) (ht : (pc : Int) + off = (tgt : Int))
    (kt : b = false → W p l e R s m args below meth c H locs cells slots Q (F0 m tgt ls rest)) (kf : b = true → W p l e R s m args below meth c H locs cells slots Q (F0 m (pc + 3) ls rest)) : W p l e R s m args below meth c H locs cells slots Q (F0 m pc ls (.int (zb_e b) :: rest)) :=
  lv_if_eq hx hb hdg ht (fun h => kt (zb_z h)) (fun h => kf (zb_nz h))
theorem nx_if_ne_b (hx : p.tables.exec = Jvm.exec) (hb : c.code = cc) {b : Bool} {off : Int} {tgt : Nat} (hdg : decode cc pc = .ok (.ifCond .ne off, 3)) (ht : (pc : Int) + off = (tgt : Int))
    (kt : b = true → W p l e R s m args below meth c H locs cells slots Q (F0 m tgt ls rest)) (kf : b = false → W p l e R s m args below meth c H locs cells slots Q (F0 m (pc + 3) ls rest)) : W p l e R s m args below meth c H locs cells slots Q (F0 m pc ls (.int (zb_e b) :: rest)) :=
  lv_if_ne hx hb hdg ht (fun h => kt (zb_nz h)) (fun h => kf (zb_z h))
theorem nx_if_eq (hx : p.tables.exec = Jvm.exec) (hb : c.code = cc) {x : Nat} {off : Int} {tgt : Nat} (hdg : decode cc pc = .ok (.ifCond .eq off, 3)) (ht : (pc : Int) + off = (tgt : Int)) (h1 : x < 2 ^ 31)
    (kt : x = 0 → W p l e R s m args below meth c H locs cells slots Q (F0 m tgt ls rest)) (kf : x ≠ 0 → W p l e R s m args below meth c H locs cells slots Q (F0 m (pc + 3) ls rest)) : W p l e R s m args below meth c H locs cells slots Q (F0 m pc ls (.int (nI x) :: rest)) :=
  lv_if_eq hx hb hdg ht (fun h => kt ((nI_eq h1 (by decide)).mp (by rw [h]; rfl))) (fun h => kf (fun q => h (by rw [q]; rfl)))
theorem nx_if_ne (hx : p.tables.exec = Jvm.exec) (hb : c.code = cc) {x : Nat} {off : Int} {tgt : Nat} (hdg : decode cc pc = .ok (.ifCond .ne off, 3)) (ht : (pc : Int) + off = (tgt : Int)) (h1 : x < 2 ^ 31)
    (kt : x ≠ 0 → W p l e R s m args below meth c H locs cells slots Q (F0 m tgt ls rest)) (kf : x = 0 → W p l e R s m args below meth c H locs cells slots Q (F0 m (pc + 3) ls rest)) : W p l e R s m args below meth c H locs cells slots Q (F0 m pc ls (.int (nI x) :: rest)) :=
  lv_if_ne hx hb hdg ht (fun h => kt (fun q => h (by rw [q]; rfl))) (fun h => kf ((nI_eq h1 (by decide)).mp (by rw [h]; rfl)))
theorem nx_if_le (hx : p.tables.exec = Jvm.exec) (hb : c.code = cc) {x : Nat} {off : Int} {tgt : Nat} (hdg : decode cc pc = .ok (.ifCond .le off, 3)) (ht : (pc : Int) + off = (tgt : Int)) (h1 : x < 2 ^ 31)
    (kt : x = 0 → W p l e R s m args below meth c H locs cells slots Q (F0 m tgt ls rest)) (kf : x ≠ 0 → W p l e R s m args below meth c H locs cells slots Q (F0 m (pc + 3) ls rest)) : W p l e R s m args below meth c H locs cells slots Q (F0 m pc ls (.int (nI x) :: rest)) :=
  lv_if_le hx hb hdg ht (fun h => kt (Nat.eq_zero_of_not_pos (fun q => nI_nle q h1 h))) (fun h => kf (fun q => h (by rw [q]; decide)))
theorem nx_up {α : Type} (enc : α → Int32) (g : Nat → α) (i : Nat) (v : α) : upd (fun j => enc (g j)) i (enc v) = fun j => enc (va_up g i v j) := by
  funext j
  unfold upd va_up
  split <;> rfl
theorem nx_iald {α : Type} (hx : p.tables.exec = Jvm.exec) (hb : c.code = cc) (hK : va_K D cl tys s) (hP : va_P D cl ws H) (q0 t0 : Nat) {cA : ClassId} {n : Nat} (enc : α → Int32) (g : Nat → α) (ha : ws[q0]? = some (a, .inl (cA, n, .inl (fun j => enc (g j))))) (ht : tys[t0]? = some (cA, .int)) (i : Nat) (hi : i < n) (hn : n < 2 ^ 31) (hdg : decode cc pc = .ok (.iaload, 1))
    (k : W p l e R s m args below meth c H locs cells slots Q (F0 m (pc + 1) ls (.int (enc (g i)) :: rest))) : W p l e R s m args below meth c H locs cells slots Q (F0 m pc ls (.int (nI i) :: .ref a :: rest)) :=
  va_iald hx hb hK hP q0 t0 ha ht (vp_in_nI hi hn) hdg (by rw [nI_clamp (Nat.lt_trans hi hn)]; exact k)
theorem nx_iast {α : Type} (hx : p.tables.exec = Jvm.exec) (hb : c.code = cc) (hK : va_K D cl tys s) (hP : va_P D cl ws H) (hD : va_D A ws) (hS : va_S A H0 H locs) (q0 t0 : Nat) {cA : ClassId} {n : Nat} (enc : α → Int32) (g : Nat → α) (ha : ws[q0]? = some (a, .inl (cA, n, .inl (fun j => enc (g j))))) (ht : tys[t0]? = some (cA, .int)) (i : Nat) (v : α) (hi : i < n) (hn : n < 2 ^ 31) (hdg : decode cc pc = .ok (.iastore, 1))
    (k : ∀ (H1 : Heap) (locs1 : List Loc), va_P D cl (ws.set q0 (a, .inl (cA, n, .inl (fun j => enc (va_up g i v j))))) H1 → va_D A (ws.set q0 (a, .inl (cA, n, .inl (fun j => enc (va_up g i v j))))) → va_S A H0 H1 locs1 → W p l e R s m args below meth c H1 locs1 cells slots Q (F0 m (pc + 1) ls rest)) : W p l e R s m args below meth c H locs cells slots Q (F0 m pc ls (.int (enc v) :: .int (nI i) :: .ref a :: rest)) := by
  refine va_iast hx hb hK hP hD hS q0 t0 ha ht (vp_in_nI hi hn) hdg (fun H1 locs1 g1 g2 g3 => ?_)
  rw [nI_clamp (Nat.lt_trans hi hn), nx_up] at g1 g2
  exact k H1 locs1 g1 g2 g3
theorem nx_zald {α : Type} (hx : p.tables.exec = Jvm.exec) (hb : c.code = cc) (hK : va_K D cl tys s) (hP : va_P D cl ws H) (q0 t0 : Nat) {cA : ClassId} {n : Nat} (enc : α → Int32) (g : Nat → α) (ha : ws[q0]? = some (a, .inl (cA, n, .inl (fun j => enc (g j))))) (ht : tys[t0]? = some (cA, .boolean)) (i : Nat) (hi : i < n) (hn : n < 2 ^ 31) (hdg : decode cc pc = .ok (.baload, 1))
    (k : W p l e R s m args below meth c H locs cells slots Q (F0 m (pc + 1) ls (.int (enc (g i)) :: rest))) : W p l e R s m args below meth c H locs cells slots Q (F0 m pc ls (.int (nI i) :: .ref a :: rest)) :=
  va_zald hx hb hK hP q0 t0 ha ht (vp_in_nI hi hn) hdg (by rw [nI_clamp (Nat.lt_trans hi hn)]; exact k)
theorem nx_narb (b : Bool) : vp_nar .boolean (zb_e b) = zb_e b := by
  cases b <;> decide +kernel
theorem nx_zast (hx : p.tables.exec = Jvm.exec) (hb : c.code = cc) (hK : va_K D cl tys s) (hP : va_P D cl ws H) (hD : va_D A ws) (hS : va_S A H0 H locs) (q0 t0 : Nat) {cA : ClassId} {n : Nat} (g : Nat → Bool) (ha : ws[q0]? = some (a, .inl (cA, n, .inl (fun j => zb_e (g j))))) (ht : tys[t0]? = some (cA, .boolean)) (i : Nat) (v : Bool) (hi : i < n) (hn : n < 2 ^ 31) (hdg : decode cc pc = .ok (.bastore, 1))
    (k : ∀ (H1 : Heap) (locs1 : List Loc), va_P D cl (ws.set q0 (a, .inl (cA, n, .inl (fun j => zb_e (va_up g i v j))))) H1 → va_D A (ws.set q0 (a, .inl (cA, n, .inl (fun j => zb_e (va_up g i v j))))) → va_S A H0 H1 locs1 → W p l e R s m args below meth c H1 locs1 cells slots Q (F0 m (pc + 1) ls rest)) : W p l e R s m args below meth c H locs cells slots Q (F0 m pc ls (.int (zb_e v) :: .int (nI i) :: .ref a :: rest)) := by
  refine va_zast hx hb hK hP hD hS q0 t0 ha ht (vp_in_nI hi hn) hdg (fun H1 locs1 g1 g2 g3 => ?_)
  rw [nI_clamp (Nat.lt_trans hi hn), nx_narb, nx_up] at g1 g2
  exact k H1 locs1 g1 g2 g3
theorem nx_inc1 (i : Nat) : nI i + Int32.ofInt 1 = nI (i + 1) := by
  rw [show Int32.ofInt 1 = nI 1 from by decide +kernel, nI_add]
theorem nx_inc2 (i : Nat) : nI i + Int32.ofInt 2 = nI (i + 2) := by
  rw [show Int32.ofInt 2 = nI 2 from by decide +kernel, nI_add]
theorem nx_inc3 (i : Nat) : nI i + Int32.ofInt 3 = nI (i + 3) := by
  rw [show Int32.ofInt 3 = nI 3 from by decide +kernel, nI_add]
theorem nx_rald (hx : p.tables.exec = Jvm.exec) (hb : c.code = cc) (hK : va_K D cl tys s) (hP : va_P D cl ws H) (q0 t0 : Nat) {cA : ClassId} {n : Nat} (g : Nat → Int32) (ha : ws[q0]? = some (a, .inl (cA, n, .inl g))) (ht : tys[t0]? = some (cA, .int)) (i : Nat) (hi : i < n) (hn : n < 2 ^ 31) (hdg : decode cc pc = .ok (.iaload, 1))
    (k : W p l e R s m args below meth c H locs cells slots Q (F0 m (pc + 1) ls (.int (g i) :: rest))) : W p l e R s m args below meth c H locs cells slots Q (F0 m pc ls (.int (nI i) :: .ref a :: rest)) :=
  va_iald hx hb hK hP q0 t0 ha ht (vp_in_nI hi hn) hdg (by rw [nI_clamp (Nat.lt_trans hi hn)]; exact k)
theorem nx_rast (hx : p.tables.exec = Jvm.exec) (hb : c.code = cc) (hK : va_K D cl tys s) (hP : va_P D cl ws H) (hD : va_D A ws) (hS : va_S A H0 H locs) (q0 t0 : Nat) {cA : ClassId} {n : Nat} (g : Nat → Int32) (ha : ws[q0]? = some (a, .inl (cA, n, .inl g))) (ht : tys[t0]? = some (cA, .int)) (i : Nat) (v : Int32) (hi : i < n) (hn : n < 2 ^ 31) (hdg : decode cc pc = .ok (.iastore, 1))
    (k : ∀ (H1 : Heap) (locs1 : List Loc), va_P D cl (ws.set q0 (a, .inl (cA, n, .inl (va_up g i v)))) H1 → va_D A (ws.set q0 (a, .inl (cA, n, .inl (va_up g i v)))) → va_S A H0 H1 locs1 → W p l e R s m args below meth c H1 locs1 cells slots Q (F0 m (pc + 1) ls rest)) : W p l e R s m args below meth c H locs cells slots Q (F0 m pc ls (.int v :: .int (nI i) :: .ref a :: rest)) := by
  refine va_iast hx hb hK hP hD hS q0 t0 ha ht (vp_in_nI hi hn) hdg (fun H1 locs1 g1 g2 g3 => ?_)
  rw [nI_clamp (Nat.lt_trans hi hn)] at g1 g2
  exact k H1 locs1 g1 g2 g3
end NX
end
section
/-! contracts that end in a throw; calls of such methods -/
section XT
variable {l : Launch}
/-- it threw; nothing has moved but the slots L and what is new -/
def xt_E (first : State) (o : Outcome) (t : State) (L : List Loc) (k n : Nat) : Prop := (∃ x, o = .threw x) ∧ first.WarmedH t.vm ∧ first.sameButNew ({ t with vm := first.vm } : State) L k n
def xt_M (l : Launch) (y : MethodName) (ws : List Cond) (rm : Room) (Pc : Array Value → State → Prop) (Qc : Array Value → State → Outcome → State → Prop) (mc ms : Nat) (free : Addr → Prop) : Prop :=
  MetFree l y (headSpec ws rm) Pc (fun _ _ _ _ _ => True) (fun a st o t => Qc a st o t ∧ ∃ L, xt_E st o t L mc ms ∧ ∀ q ∈ L, free q.base)
def xt_Q (below : List Frame) (Qc : Array Value → State → Outcome → State → Prop) (a : Array Value) (s : State) (mc ms : Nat) (free : Addr → Prop) : State → Prop := fun t =>
  ∃ o, t.status = .running ∧ Ended t below o ∧ Qc a s o t ∧ ∃ L, xt_E s o t L mc ms ∧ ∀ q ∈ L, free q.base
theorem xt_ofW {y : MethodName} {ws ws' : List Cond} {rm : Room} {Pc : Array Value → State → Prop} {Qc : Array Value → State → Outcome → State → Prop} {mc ms : Nat} {free : Addr → Prop} {cc : ByteArray} {maxL : Nat} {ret : Option FieldType}
    (hy : plainName y.cls = true) (hw : ws = Cond.code y cc maxL ret :: ws')
    (body : ∀ p e s m args below meth c s₁, BodyLoose p l y (headSpec ws rm) cc maxL ret e s m args below meth c s₁ → c.maxLocals = maxL → Pc args s →
      W p l e (headSpec ws rm).room s m args below meth c s.heap [] 0 0 (xt_Q below Qc args s mc ms free) (entryFrame m args maxL)) : xt_M l y ws rm Pc Qc mc ms free := by
  refine MetFree.of_bodyS (code := cc) (maxLocals := maxL) (ret := ret) hy ?_ ?_
  · intro args s m h hn
    obtain ⟨meth, c, h1, h2, h3, h4, h5, h6, -, -⟩ := Cond.code_spec hn (atoms_spec (ws := ws) h _ (by rw [hw]; exact List.mem_cons_self))
    exact ⟨meth, c, h1, h2, h3, h4, h5, h6⟩
  · intro p e s m args below meth c s₁ B hml hP _
    have hh0 : s₁.heap = s.heap := by rw [B.state]; rfl
    obtain ⟨t, a1, o, b1, b2, b3⟩ := body p e s m args below meth c s₁ B hml hP s₁ hh0 (Stand.of_body B)
    exact ⟨t, o, a1, b1, b2, ⟨b3.1, b3.2⟩⟩
end XT
section XU
variable {p : Program} {l : Launch} {e : Env} {R : Room} {s : State} {m : MethodId} {args : Array Value} {below : List Frame} {meth : Method} {c : Code} {H : Heap} {locs : List Loc} {cells slots : Nat} {Q : State → Prop}
theorem xt_none {x : Array ExceptionTableEntry} {pc : Nat} (h : x.isEmpty = true) : ∀ y ∈ x.toList, covers y pc = false := by
  intro y hy
  have e : x = #[] := by simpa using h
  rw [e] at hy
  cases hy
theorem xt_athrow {cc : ByteArray} {Qc : Array Value → State → Outcome → State → Prop} {free : Addr → Prop} {a : Addr} (hexec : p.tables.exec = Jvm.exec) (hb : c.code = cc) (hno : c.exceptionTable.isEmpty = true)
    (hq : ∀ t : State, t.heap = H → s.WarmedH t.vm → Qc args s (.threw a) t) (hf : ∀ q ∈ locs, free q.base)
    {pc : Nat} {ls : Array Slot} {rest : List Value} (hdg : decode cc pc = .ok (.athrow, 1)) (hlocks : meth.locks = false) : W p l e R s m args below meth c H locs cells slots (xt_Q below Qc args s cells slots free) (F0 m pc ls (.ref a :: rest)) := by
  intro T hT X
  obtain ⟨hwalk, hrun, hended, hW, hsame⟩ := X.athrowLeaves hexec (g := F0 m pc ls (.ref a :: rest)) rfl rfl rfl (xt_none hno) (a := a) (rest := rest) rfl (by rw [hb]; exact hdg) hlocks
  exact ⟨_, hwalk, .threw a, hrun, hended, hq _ hT hW, locs, ⟨⟨a, rfl⟩, hW, hsame⟩, hf⟩
/-- a call that throws -/
def xt_Run (p : Program) (l : Launch) (e : Env) (R : Room) (s : State) (m : MethodId) (args : Array Value) (below : List Frame) (meth : Method) (c : Code) (H : Heap) (locs : List Loc) (cells slots mc ms : Nat) (g : JFrame) (rest : List Value) (Qa : State → Outcome → State → Prop) (free : Addr → Prop) : Prop :=
  ∀ T : State, T.heap = H → Stand p l e R s m args below meth c T locs cells slots → ∃ (x : Addr) (st₀ t T' : State) (L : List Loc), st₀.heap = H ∧ Stand p l e R s m args below meth c T' (locs ++ L) (cells + mc) (slots + ms) ∧ (∀ q ∈ L, free q.base) ∧ T'.heap = t.heap ∧ T'.vm = t.vm ∧ Qa st₀ (.threw x) t ∧
    Steps p.tables e below (T.setTop g) ((T'.setTop { g with stack := rest }).pushFrame (.throwing x))
/-- what comes of the invocation itself -/
theorem xt_back {y : MethodName} {ws : List Cond} {rm : Room} {Pc : Array Value → State → Prop} {Qc : Array Value → State → Outcome → State → Prop} {mc ms : Nat} {free : Addr → Prop} {bytes : ByteArray} {maxL len : Nat} {ret : Option FieldType}
    (hM : xt_M l y ws rm Pc Qc mc ms free) (hblind : FrameBlind Pc) (hrc : rm.cells = mc) (hrs : rm.slots = ms) (hfr : rm.frames + 1 ≤ R.frames) (hlo : 8 + (maxL + 11) + rm.locals ≤ R.locals)
    (hws : ∀ w ∈ ws, ∀ (a' : Array Value) (U : State), s.WarmedH U.vm → w.before a' U = true) (hcode : Cond.code y bytes maxL ret ∈ ws) (hinit : ∀ (a' : Array Value) (U : State), s.WarmedH U.vm → (Cond.initialized y.cls).before a' U = true)
    {U : State} (X : Stand p l e R s m args below meth c U locs cells slots) {g : JFrame} {ig : Instr} {mk : MethodId} {a : Array Value} (hg : g.method = m) (hsize : g.locals.size = c.maxLocals) (hdg : decode c.code g.pc = .ok (ig, len))
    (hW : 2 * g.monitorRoom + (g.stack.map fun v => v.category).sum ≤ 8) (hn : U.methodNamed? y = some mk) (h4 : cells + mc ≤ R.cells) (h5 : slots + ms ≤ R.slots) (hPc : Pc a U) :
    ∃ (x : Addr) (t T' : State) (L : List Loc), Stand p l e R s m args below meth c T' (locs ++ L) (cells + mc) (slots + ms) ∧ (∀ q ∈ L, free q.base) ∧ T'.heap = t.heap ∧ T'.vm = t.vm ∧ Qc a (U.calling g mk a) (.threw x) t ∧
      Steps p.tables e below (doInvoke e (U.setTop g) [] mk a).1 ((T'.setTop g).pushFrame (.throwing x)) := by
  subst hrc
  subst hrs
  have h1 : (headSpec ws rm).pre.before a U = true := atoms_intro fun w hw => hws w hw _ _ X.warmed
  have h2 : (Cond.code y bytes maxL ret).before a U = true := hws _ hcode _ _ X.warmed
  have h3 := hinit a U X.warmed
  obtain ⟨methY, cY, hmY, hcY, -, hlY, -, -, -, -⟩ := Cond.code_spec hn h2
  obtain ⟨kY, hkY, -⟩ := className_of_methodNamed hn
  have hinitY : kY.init = .initialized := Cond.initialized_spec (findClass_of_methodNamed hn) hkY h3
  have h : At U g.method c below := by rw [hg]; exact X.here
  have happ : (headSpec ws rm).appliesLoose y e.platform (U.calling g mk a) = true :=
    Spec.appliesLoose_calling (g := g) h hdg hn hkY hinitY (X.room_calling (g := g) (R' := rm) hsize hmY hcY hfr (by rw [hlY]; omega) h4 h5) h1
  obtain ⟨mid, hmid⟩ := h.above
  have hfr : (U.setTop g).frames = (.java g :: mid) ++ below := by rw [State.frames_setTop' g h.top, hmid]; rfl
  obtain ⟨o, s₂, hsteps, -, hend, hq⟩ := Steps.callFree hM p X.admits X.cas X.clock (acts := []) hfr happ (hblind _ _ _ _ hPc) trivial
  have hq' : Qc a (U.calling g mk a) o s₂ ∧ ∃ L, xt_E (U.calling g mk a) o s₂ L rm.cells rm.slots ∧ ∀ q ∈ L, free q.base := hq
  obtain ⟨hq1, L, hfe, hL⟩ := hq'
  rw [State.frames_setTop' g h.top] at hend
  obtain ⟨⟨v, rfl⟩, hW₂, e2, q2, q3, q4, q5, q6⟩ := id hfe
  have e3 : s₂ = ({ (U.calling g mk a).setFrames s₂.frames with heap := s₂.heap, slotsUsed := s₂.slotsUsed } : State).setVm s₂.vm := by
    have : s₂ = ({ s₂ with vm := (U.calling g mk a).vm } : State).setVm s₂.vm := rfl
    rw [e2] at this
    exact this
  have hf₂ : s₂.frames = .throwing v :: .java g :: U.frames.tail := hend
  have hW' : U.WarmedH s₂.vm := hW₂
  obtain ⟨g₀, hg0⟩ := Option.isSome_iff_exists.mp h.top
  obtain ⟨r, hr⟩ := State.topJava?_eq_some.mp hg0
  have hs₂ : s₂ = ((({ U with heap := s₂.heap, slotsUsed := s₂.slotsUsed } : State).setVm s₂.vm).setTop g).pushFrame (.throwing v) := by
    have hr' : (({ U with heap := s₂.heap, slotsUsed := s₂.slotsUsed } : State).setVm s₂.vm).frames = .java g₀ :: r := hr
    refine e3.trans ?_
    rw [hf₂, State.calling_eq h.top, State.setFrames_setFrames, State.pushFrame, State.frames_setTop _ hr', State.setTop_of_frames _ hr', State.setFrames_setFrames, hr]
    rfl
  have hsame : U.sameButNew ({ U with heap := s₂.heap, slotsUsed := s₂.slotsUsed } : State) L rm.cells rm.slots := by
    refine ⟨?_, q2, q3, q4, q5, q6⟩
    obtain ⟨t, ht, -⟩ := State.frames_cons hr
    show ({ U with heap := s₂.heap, slotsUsed := s₂.slotsUsed } : State) = { U.setFrames U.frames with heap := s₂.heap, slotsUsed := s₂.slotsUsed }
    rw [State.setFrames_self ht]
  subst hg
  refine ⟨v, s₂, (({ U with heap := s₂.heap, slotsUsed := s₂.slotsUsed } : State).setVm s₂.vm), L,
    ⟨X.admits, X.cas, X.clock, X.frames, X.room, X.hears, X.method, X.code, (X.here.setHeapUsed s₂.heap s₂.slotsUsed).setVm hW'.alike, X.tail, State.WarmedH.trans X.warmed hW', X.limits, X.bytes, X.same.trans (hsame.setVm s.vm)⟩,
    hL, rfl, rfl, hq1, ?_⟩
  rw [← hs₂]
  exact hsteps
/-- a static method that throws is called -/
theorem xt_runS {y : MethodName} {bytes cc : ByteArray} {maxL nL mc ms n index : Nat} {ret : Option FieldType} {ws : List Cond} {rm : Room} {Pc : Array Value → State → Prop} {Qc : Array Value → State → Outcome → State → Prop} {free : Addr → Prop} {Ts : List Cond} {own : String} {As rest : List Value} {g : JFrame}
    (S : CallFix p m c cc nL s args Ts own) (hM : xt_M l y ws rm Pc Qc mc ms free) (cw : CallB R s args own index y bytes maxL ret ws rm mc ms n ∧ (Cond.static y).before args s = true) (hp : PreS s H Pc As)
    (hg : g.method = m) (hn : As.length = n) (hsize : g.locals.size = nL) (hstack : g.stack = As.reverse ++ rest) (hW : 2 * g.monitorRoom + (rest.map fun v => v.category).sum ≤ 8) (hdg : decode cc g.pc = .ok (.invokestatic index, 3)) (hf : cells + mc ≤ R.cells ∧ slots + ms ≤ R.slots) :
    xt_Run p l e R s m args below meth c H locs cells slots mc ms g rest (Qc As.toArray) free := by
  obtain ⟨⟨hrc, hrs, hfr, hlo, hws, hcw, hcode, hini, hy, hlen, hl⟩, hstt⟩ := cw
  obtain ⟨hx, hb, hml, ho, -⟩ := S
  intro T hT X
  obtain ⟨mk, hnamed⟩ := Cond.code_named hcode
  obtain ⟨methM, cM, hmethM, -, -, -, -, -, -, hsigM⟩ := Cond.code_spec hnamed hcode
  have hstatic : methM.isStatic = true := Cond.static_spec hnamed hmethM hstt
  obtain ⟨kP, hkP, -⟩ := className_of_methodNamed hnamed
  have hinitP : kP.init = .initialized := Cond.initialized_spec (findClass_of_methodNamed hnamed) hkP hini
  obtain ⟨vm₁, X₁, hstep₁⟩ := X.invokestatic hx ho hl hnamed hmethM hstatic hkP hinitP hy (g := g) hg (argsL := As) (rest := rest) (hn.trans (hlen _ hsigM)) hstack (by rw [hb]; exact hdg)
  obtain ⟨x, t, T', L, X', hL, e1, e2, hq, st⟩ := xt_back (len := 3) (g := { g with stack := rest }) (ig := .invokestatic index) (mk := mk) (a := As.toArray) hM hp.1 hrc hrs hfr hlo hws hcw (fun a' U hW => word_at hW (Or.inl (by first | rfl | simp [Cond.onTables, Cond.keeps, Cond.steady])) hini) X₁ hg (hsize.trans hml.symm) (by rw [hb]; exact hdg) hW (X₁.named hnamed) hf.1 hf.2 (hp.2 (T.setVm vm₁) hT X₁.warmed)
  refine ⟨x, _, t, T', L, ?_, X', hL, e1, e2, hq, hstep₁ _ fun acts => ?_⟩
  · exact hT
  · rw [doInvoke_state]
    exact st
/-- an instance method that throws is called -/
theorem xt_runV {y : MethodName} {bytes cc : ByteArray} {maxL nL mc ms n index : Nat} {ret : Option FieldType} {ws : List Cond} {rm : Room} {Pc : Array Value → State → Prop} {Qc : Array Value → State → Outcome → State → Prop} {free : Addr → Prop} {Ts : List Cond} {own C : String} {b : Addr} {As rest : List Value} {g : JFrame}
    (S : CallFix p m c cc nL s args Ts own) (hM : xt_M l y ws rm Pc Qc mc ms free) (cw : CallW R s args own C index y bytes maxL ret ws rm mc ms n) (hp : PreV s H C b Pc As)
    (hg : g.method = m) (hn : As.length = n) (hsize : g.locals.size = nL) (hstack : g.stack = As.reverse ++ .ref b :: rest) (hW : 2 * g.monitorRoom + (rest.map fun v => v.category).sum ≤ 8) (hdg : decode cc g.pc = .ok (.invokevirtual index, 3)) (hf : cells + mc ≤ R.cells ∧ slots + ms ≤ R.slots) :
    xt_Run p l e R s m args below meth c H locs cells slots mc ms g rest (Qc (Value.ref b :: As).toArray) free := by
  obtain ⟨⟨hrc, hrs, hfr, hlo, hws, hcw, hcode, hini, hy, hlen, hl⟩, hin, hse⟩ := cw
  obtain ⟨hx, hb, hml, ho, -⟩ := S
  obtain ⟨hbl, ⟨cellB, hcB, hoB, hclB⟩, hPc⟩ := hp
  intro T hT X
  obtain ⟨mk, methM, hnamed, hmethM, hstM, habM⟩ := Cond.instanceMethod_spec hin
  obtain ⟨methM', cM, hmethM', -, -, -, -, -, -, hsigM⟩ := Cond.code_spec hnamed hcode
  cases hmethM.symm.trans hmethM'
  obtain ⟨c2, r2, m2, q1, q2, q3, q4, kP, hkP, hkPi⟩ := Cond.selects_spec hse
  cases hclB.symm.trans q1
  cases (State.methodFound?_of_named hnamed hy).symm.trans q2
  cases hnamed.symm.trans q3
  have hselP : selectMethod e.platform s.vm cellB.cls mk = .method mk := by rw [Launch.admits_selectMethod X.admits]; exact q4
  obtain ⟨vm₁, X₁, hstep₁⟩ := X.invokevirtual hx ho hl hnamed hmethM hstM hkP hkPi hy (a := b) (cell := cellB) (by rw [hT]; exact hcB)
    (fun z h => by rw [h] at hoB; cases hoB) hselP hmethM habM hkP hkPi (g := g) hg (argsL := As) (rest := rest) (hn.trans (hlen _ hsigM)) hstack (by rw [hb]; exact hdg)
  obtain ⟨x, t, T', L, X', hL, e1, e2, hq, st⟩ := xt_back (len := 3) (g := { g with stack := rest }) (ig := .invokevirtual index) (mk := mk) (a := (Value.ref b :: As).toArray) hM hbl hrc hrs hfr hlo hws hcw (fun a' U hW => word_at hW (Or.inl (by first | rfl | simp [Cond.onTables, Cond.keeps, Cond.steady])) hini) X₁ hg (hsize.trans hml.symm) (by rw [hb]; exact hdg) hW (X₁.named hnamed) hf.1 hf.2 (hPc (T.setVm vm₁) hT X₁.warmed)
  refine ⟨x, _, t, T', L, ?_, X', hL, e1, e2, hq, hstep₁ _ fun acts => ?_⟩
  · exact hT
  · rw [doInvoke_state]
    exact st
/-- a throw that goes on -/
theorem xt_on {mc ms : Nat} {pc : Nat} {ls : Array Slot} {st0 rest : List Value} {Qa : State → Outcome → State → Prop} {Qc : Array Value → State → Outcome → State → Prop} {free fr2 : Addr → Prop} (hr : xt_Run p l e R s m args below meth c H locs cells slots mc ms (F0 m pc ls st0) rest Qa free) (hno : c.exceptionTable.isEmpty = true)
    (hq : ∀ (x : Addr) (st₀ t t' : State), st₀.heap = H → Qa st₀ (.threw x) t → t'.heap = t.heap → s.WarmedH t'.vm → s.vm.Alike t.vm → Qc args s (.threw x) t') (hf : ∀ q ∈ locs, fr2 q.base) (hfr : ∀ q, free q → fr2 q) (hlocks : meth.locks = false) :
    W p l e R s m args below meth c H locs cells slots (xt_Q below Qc args s (cells + mc) (slots + ms) fr2) (F0 m pc ls st0) := by
  intro T hT X
  obtain ⟨x, st₀, t, T', L, h0, X', hL, e1, e2, hqa, st⟩ := hr T hT X
  obtain ⟨hwalk, hrun, hended, hW, hsame⟩ := X'.leaveThrown x (g := F0 m pc ls rest) rfl rfl rfl (xt_none hno) hlocks
  exact ⟨_, st.trans hwalk, .threw x, hrun, hended, hq x st₀ t _ h0 hqa e1 hW (by rw [← e2]; exact X'.warmed.alike), locs ++ L, ⟨⟨x, rfl⟩, hW, hsame⟩, fun q hq => by
    rcases List.mem_append.mp hq with h | h
    · exact hf q h
    · exact hfr _ (hL q h)⟩
end XU
end
section
/-! giving up, object by object -/
def gu_ob (ob : Nat → Nat) (mk : Nat → Bool) (n : Nat) : Nat → Nat := fun i => if ob i ≠ 0 ∧ ob i - 1 < n ∧ mk (ob i - 1) = false then 0 else ob i
def gu_wd (wd : Nat → Int32) (ob : Nat → Nat) (mk : Nat → Bool) (n : Nat) : Nat → Int32 := fun i => if ob i ≠ 0 ∧ ob i - 1 < n ∧ mk (ob i - 1) = false then 0 else wd i
theorem gu_0 (ob : Nat → Nat) (mk : Nat → Bool) (i : Nat) : gu_ob ob mk 0 i = ob i := by
  unfold gu_ob
  rw [if_neg (by omega)]
theorem gu_w0 (wd : Nat → Int32) (ob : Nat → Nat) (mk : Nat → Bool) (i : Nat) : gu_wd wd ob mk 0 i = wd i := by
  unfold gu_wd
  rw [if_neg (by omega)]
theorem gu_at {ob : Nat → Nat} {mk : Nat → Bool} {n : Nat} : gu_ob ob mk n n = n + 1 ↔ ob n = n + 1 := by
  unfold gu_ob
  split
  · rename_i h
    constructor
    · intro q; omega
    · intro q; omega
  · exact Iff.rfl
/-- nothing is given up at n -/
theorem gu_no {ob ln kd : Nat → Nat} (ho : iv_o ob ln kd) {mk : Nat → Bool} {n : Nat} (h : ¬ (ob n = n + 1 ∧ mk n = false)) {i : Nat} (hi : i < 512) : (ob i ≠ 0 ∧ ob i - 1 < n + 1 ∧ mk (ob i - 1) = false) ↔ (ob i ≠ 0 ∧ ob i - 1 < n ∧ mk (ob i - 1) = false) := by
  constructor
  · intro ⟨q1, q2, q3⟩
    refine ⟨q1, ?_, q3⟩
    by_cases e : ob i - 1 = n
    · exfalso
      have hp := (iv_st ho hi (p := n) (by omega)).2.1
      rw [e] at q3
      exact h ⟨hp, q3⟩
    · omega
  · intro ⟨q1, q2, q3⟩
    exact ⟨q1, by omega, q3⟩
theorem gu_nob {ob ln kd : Nat → Nat} (ho : iv_o ob ln kd) {mk : Nat → Bool} {n : Nat} (h : ¬ (ob n = n + 1 ∧ mk n = false)) {i : Nat} (hi : i < 512) : gu_ob ob mk (n + 1) i = gu_ob ob mk n i := by
  unfold gu_ob
  have e := gu_no ho h hi
  by_cases q : ob i ≠ 0 ∧ ob i - 1 < n ∧ mk (ob i - 1) = false
  · rw [if_pos q, if_pos (e.mpr q)]
  · rw [if_neg q, if_neg (fun z => q (e.mp z))]
theorem gu_nwd {ob ln kd : Nat → Nat} {wd : Nat → Int32} (ho : iv_o ob ln kd) {mk : Nat → Bool} {n : Nat} (h : ¬ (ob n = n + 1 ∧ mk n = false)) {i : Nat} (hi : i < 512) : gu_wd wd ob mk (n + 1) i = gu_wd wd ob mk n i := by
  unfold gu_wd
  have e := gu_no ho h hi
  by_cases q : ob i ≠ 0 ∧ ob i - 1 < n ∧ mk (ob i - 1) = false
  · rw [if_pos q, if_pos (e.mpr q)]
  · rw [if_neg q, if_neg (fun z => q (e.mp z))]
/-- the object at n is given up -/
theorem gu_yes {ob ln kd : Nat → Nat} (ho : iv_o ob ln kd) {mk : Nat → Bool} {n : Nat} (hn : n < 512) (h1 : ob n = n + 1) (h2 : mk n = false) {i : Nat} (hi : i < 512) : (ob i ≠ 0 ∧ ob i - 1 < n + 1 ∧ mk (ob i - 1) = false) ↔ ((n ≤ i ∧ i < n + ln n) ∨ (ob i ≠ 0 ∧ ob i - 1 < n ∧ mk (ob i - 1) = false)) := by
  have h5 := (ho n hn n h1).2.2.2.2.1
  constructor
  · intro ⟨q1, q2, q3⟩
    by_cases e : ob i - 1 = n
    · have := ho i hi n (by omega)
      exact Or.inl ⟨this.1, this.2.1⟩
    · exact Or.inr ⟨q1, by omega, q3⟩
  · intro q
    rcases q with q | ⟨q1, q2, q3⟩
    · have e := h5 i q.1 q.2
      rw [e]
      exact ⟨by omega, by omega, by rw [show n + 1 - 1 = n by omega]; exact h2⟩
    · exact ⟨q1, by omega, q3⟩
theorem gu_yob {ob ln kd : Nat → Nat} (ho : iv_o ob ln kd) {mk : Nat → Bool} {n : Nat} (hn : n < 512) (h1 : ob n = n + 1) (h2 : mk n = false) {i : Nat} (hi : i < 512) : gu_ob ob mk (n + 1) i = if n ≤ i ∧ i < n + ln n then 0 else gu_ob ob mk n i := by
  have e := gu_yes ho hn h1 h2 hi
  unfold gu_ob
  by_cases q : n ≤ i ∧ i < n + ln n
  · rw [if_pos q, if_pos (e.mpr (Or.inl q))]
  · rw [if_neg q]
    by_cases q2 : ob i ≠ 0 ∧ ob i - 1 < n ∧ mk (ob i - 1) = false
    · rw [if_pos q2, if_pos (e.mpr (Or.inr q2))]
    · rw [if_neg q2, if_neg (fun z => (e.mp z).elim q q2)]
theorem gu_ywd {ob ln kd : Nat → Nat} {wd : Nat → Int32} (ho : iv_o ob ln kd) {mk : Nat → Bool} {n : Nat} (hn : n < 512) (h1 : ob n = n + 1) (h2 : mk n = false) {i : Nat} (hi : i < 512) : gu_wd wd ob mk (n + 1) i = if n ≤ i ∧ i < n + ln n then 0 else gu_wd wd ob mk n i := by
  have e := gu_yes ho hn h1 h2 hi
  unfold gu_wd
  by_cases q : n ≤ i ∧ i < n + ln n
  · rw [if_pos q, if_pos (e.mpr (Or.inl q))]
  · rw [if_neg q]
    by_cases q2 : ob i ≠ 0 ∧ ob i - 1 < n ∧ mk (ob i - 1) = false
    · rw [if_pos q2, if_pos (e.mpr (Or.inr q2))]
    · rw [if_neg q2, if_neg (fun z => (e.mp z).elim q q2)]
theorem gu_cy {ob ln kd : Nat → Nat} (ho : iv_o ob ln kd) {mk : Nat → Bool} {n : Nat} (hn : n < 512) (h1 : ob n = n + 1) (h2 : mk n = false) : iv_c (gu_ob ob mk n) = iv_c (gu_ob ob mk (n + 1)) + 1 := by
  unfold iv_c
  have hl := (ho n hn n h1).2.1
  refine cn_set (k := n) (cl_f.mpr ?_) (cl_t.mpr ?_) 512 hn (fun i hi hne => cl_e ?_)
  · rw [gu_yob ho hn h1 h2 hn, if_pos ⟨Nat.le_refl _, hl⟩]
    omega
  · exact gu_at.mpr h1
  · rw [gu_yob ho hn h1 h2 hi]
    by_cases q : n ≤ i ∧ i < n + ln n
    · rw [if_pos q]
      have e := (ho n hn n h1).2.2.2.2.1 i q.1 q.2
      unfold gu_ob
      rw [if_neg (by omega)]
      omega
    · rw [if_neg q]
theorem gu_cn {ob ln kd : Nat → Nat} (ho : iv_o ob ln kd) {mk : Nat → Bool} {n : Nat} (h : ¬ (ob n = n + 1 ∧ mk n = false)) : iv_c (gu_ob ob mk (n + 1)) = iv_c (gu_ob ob mk n) := cn_ext 512 (fun i hi => cl_e (by rw [gu_nob ho h hi]))
theorem gu_eob {ob ln kd : Nat → Nat} (ho : iv_o ob ln kd) {mk : Nat → Bool} {i : Nat} (hi : i < 512) : gu_ob ob mk 512 i = co_ob ob mk i := by
  have := iv_lt ho hi
  unfold gu_ob co_ob
  by_cases q : mk (ob i - 1) = true
  · rw [if_pos q, if_neg (by rw [q]; simp)]
  · rw [if_neg q]
    by_cases z : ob i = 0
    · rw [if_neg (by omega)]
      exact z
    · rw [if_pos ⟨z, by omega, cl_ft q⟩]
theorem gu_ewd {ob ln kd : Nat → Nat} {wd : Nat → Int32} (ho : iv_o ob ln kd) {mk : Nat → Bool} {i : Nat} (hi : i < 512) : gu_wd wd ob mk 512 i = co_wd wd ob mk i := by
  have := iv_lt ho hi
  unfold gu_wd co_wd
  by_cases q : ob i ≠ 0 ∧ mk (ob i - 1) = false
  · rw [if_pos q, if_pos ⟨q.1, by omega, q.2⟩]
  · rw [if_neg q, if_neg (fun z => q ⟨z.1, z.2.2⟩)]
theorem gu_c0 (ob : Nat → Nat) (mk : Nat → Bool) : iv_c (gu_ob ob mk 0) = iv_c ob := cn_ext 512 (fun i hi => cl_e (by rw [gu_0]))
theorem gu_ce {ob ln kd : Nat → Nat} (ho : iv_o ob ln kd) (mk : Nat → Bool) : iv_c (gu_ob ob mk 512) = iv_c (co_ob ob mk) := cn_ext 512 (fun i hi => cl_e (by rw [gu_eob ho hi]))
/-- the words of a block that are in no object -/
noncomputable def fw_n (ob : Nat → Nat) (b : Nat) : Nat := cn_t (fun j => cl_b (ob (32 * b + j) = 0)) 32
theorem fw_32 {ob : Nat → Nat} {b : Nat} : fw_n ob b = 32 ↔ co_br ob b := by
  constructor
  · intro h j hj
    cases hz : cl_b (ob (32 * b + j) = 0) with
    | true => exact cl_t.mp hz
    | false =>
      have := cn_lt (P := fun j => cl_b (ob (32 * b + j) = 0)) hz 32 hj
      unfold fw_n at h
      omega
  · intro h
    exact cn_all 32 (fun i hi => cl_t.mpr (h i hi))
/-- they are the words of the empty slots -/
noncomputable def es_n (ob kd : Nat → Nat) (b : Nat) : Nat := cn_t (fun t => cl_b (ob (32 * b + t * kd b) = 0)) (32 / kd b)
theorem es_eq {ob ln kd : Nat → Nat} (ho : iv_o ob ln kd) {b : Nat} (hb : b < 16) (hs : kd b = 2 ∨ kd b = 4 ∨ kd b = 8 ∨ kd b = 16) : fw_n ob b = es_n ob kd b * kd b := by
  unfold fw_n es_n
  have h32 : 32 = 32 / kd b * kd b := by rcases hs with e | e | e | e <;> rw [e]
  have key : ∀ t r, t < 32 / kd b → r < kd b → cl_b (ob (32 * b + (t * kd b + r)) = 0) = cl_b (ob (32 * b + t * kd b) = 0) := by
    intro t r ht hr
    refine cl_e ⟨fun h => ?_, fun h => ?_⟩
    · refine iv_slot ho (i := 32 * b + (t * kd b + r)) (s := kd b) ?_ hs ?_ h ?_
      · rcases hs with e | e | e | e <;> rw [e] at ht hr ⊢ <;> omega
      · congr 1
        rcases hs with e | e | e | e <;> rw [e] at ht hr ⊢ <;> omega
      · rcases hs with e | e | e | e <;> rw [e] at ht hr ⊢ <;> omega
    · refine iv_slot ho (i := 32 * b + t * kd b) (s := kd b) ?_ hs ?_ h ?_
      · rcases hs with e | e | e | e <;> rw [e] at ht hr ⊢ <;> omega
      · congr 1
        rcases hs with e | e | e | e <;> rw [e] at ht hr ⊢ <;> omega
      · rcases hs with e | e | e | e <;> rw [e] at ht hr ⊢ <;> omega
  have := cn_mul (P := fun t => cl_b (ob (32 * b + t * kd b) = 0)) (Q := fun j => cl_b (ob (32 * b + j) = 0)) (kd b) (32 / kd b) key
  rw [← h32] at this
  exact this
/-- the reference frees the blocks of a large object where it is given up -/
def gk_kd (kd ob : Nat → Nat) (mk : Nat → Bool) (n : Nat) : Nat → Nat := fun b => if 32 ≤ kd b ∧ ob (32 * b) ≠ 0 ∧ ob (32 * b) - 1 < n ∧ mk (ob (32 * b) - 1) = false then 0 else kd b
theorem gk_0 (kd ob : Nat → Nat) (mk : Nat → Bool) (b : Nat) : gk_kd kd ob mk 0 b = kd b := by
  unfold gk_kd
  rw [if_neg (by omega)]
theorem gk_n {ob ln kd : Nat → Nat} (ho : iv_o ob ln kd) {mk : Nat → Bool} {n : Nat} (h : ¬ (ob n = n + 1 ∧ mk n = false)) {b : Nat} (hb : b < 16) : gk_kd kd ob mk (n + 1) b = gk_kd kd ob mk n b := by
  unfold gk_kd
  have e := gu_no ho h (i := 32 * b) (by omega)
  by_cases q : 32 ≤ kd b ∧ ob (32 * b) ≠ 0 ∧ ob (32 * b) - 1 < n ∧ mk (ob (32 * b) - 1) = false
  · rw [if_pos q, if_pos ⟨q.1, e.mpr q.2⟩]
  · rw [if_neg q, if_neg (fun z => q ⟨z.1, e.mp z.2⟩)]
theorem gk_y {ob ln kd : Nat → Nat} (ho : iv_o ob ln kd) {mk : Nat → Bool} {n : Nat} (hn : n < 512) (h1 : ob n = n + 1) (h2 : mk n = false) {b : Nat} (hb : b < 16) :
    gk_kd kd ob mk (n + 1) b = if 32 ≤ gk_kd kd ob mk n b ∧ n ≤ 32 * b ∧ 32 * b < n + ln n then 0 else gk_kd kd ob mk n b := by
  have e := gu_yes ho hn h1 h2 (i := 32 * b) (by omega)
  by_cases k : 32 ≤ kd b
  · by_cases q : ob (32 * b) ≠ 0 ∧ ob (32 * b) - 1 < n ∧ mk (ob (32 * b) - 1) = false
    · have e0 : gk_kd kd ob mk n b = 0 := if_pos ⟨k, q⟩
      have e1 : gk_kd kd ob mk (n + 1) b = 0 := if_pos ⟨k, e.mpr (Or.inr q)⟩
      rw [e0, e1, if_neg (by omega)]
    · have e0 : gk_kd kd ob mk n b = kd b := if_neg (fun z => q z.2)
      rw [e0]
      by_cases r : n ≤ 32 * b ∧ 32 * b < n + ln n
      · rw [if_pos ⟨k, r⟩]
        exact if_pos ⟨k, e.mpr (Or.inl r)⟩
      · rw [if_neg (fun z => r z.2)]
        exact if_neg (fun z => (e.mp z.2).elim r q)
  · have e0 : gk_kd kd ob mk n b = kd b := if_neg (fun z => k z.1)
    have e1 : gk_kd kd ob mk (n + 1) b = kd b := if_neg (fun z => k z.1)
    rw [e0, e1, if_neg (fun z => k z.1)]
theorem gk_e {ob ln kd : Nat → Nat} (ho : iv_o ob ln kd) (hl : iv_l ob kd) {mk : Nat → Bool} {b : Nat} (hb : b < 16) : (if gk_kd kd ob mk 512 b < 32 ∧ cl_b (co_br (co_ob ob mk) b) = true then 0 else gk_kd kd ob mk 512 b) = co_kd kd (co_ob ob mk) b := by
  have h5 : 32 * b < 512 := by omega
  have hd : 32 * b / 32 = b := by omega
  by_cases br : co_br (co_ob ob mk) b
  · have r : co_kd kd (co_ob ob mk) b = 0 := if_pos (cl_t.mpr br)
    rw [r]
    by_cases k : 32 ≤ kd b
    · have h0 : co_ob ob mk (32 * b) = 0 := by
        have := br 0 (by omega)
        rwa [Nat.add_zero] at this
      have hne := hl (32 * b) h5 (by rw [hd]; exact k)
      have hlt := iv_lt ho h5
      have hm : mk (ob (32 * b) - 1) = false := by
        unfold co_ob at h0
        split at h0
        · exact absurd h0 hne
        · rename_i q
          exact cl_ft q
      have e0 : gk_kd kd ob mk 512 b = 0 := if_pos ⟨k, hne, by omega, hm⟩
      rw [e0]
      split <;> rfl
    · have e0 : gk_kd kd ob mk 512 b = kd b := if_neg (fun z => k z.1)
      rw [e0, if_pos ⟨by omega, cl_t.mpr br⟩]
  · have r : co_kd kd (co_ob ob mk) b = kd b := if_neg (fun q => br (cl_t.mp q))
    rw [r, if_neg (fun z => br (cl_t.mp z.2))]
    refine if_neg (fun z => ?_)
    obtain ⟨k, z1, z2, z3⟩ := z
    refine br (fun j hj => ?_)
    obtain ⟨p, hp⟩ : ∃ p, ob (32 * b) = p + 1 := ⟨ob (32 * b) - 1, by omega⟩
    have e := (iv_big ho h5 (by rw [hd]; exact k) hp (j := 32 * b + j) (by omega)).1
    have e2 : ob (32 * b) - 1 = p := by omega
    rw [e2] at z3
    unfold co_ob
    rw [e, show p + 1 - 1 = p by omega, z3]
    rfl
end
section
/-! contracts: what reads, what changes a world of fixed addresses -/
def rm_d (d : Nat) : Room := { frames := d, cells := 0, slots := 0, locals := 40 * d }
def gx_I (D : va_G) (cl : List vw_C) (tys : List (ClassId × FieldType)) (w : va_W) (U : State) : Prop := va_P D cl w U.heap ∧ va_K D cl tys U ∧ va_D (fun _ => True) w
def gx_A (hs : Nat → Nat) (n : Nat) : Nat → Prop := fun q => ∃ k, k < n ∧ q = hs k
/-- behind a method: its answer and the world, which 'Z' ties -/
def gx_Q (D : va_G) (cl : List vw_C) (A : Nat → Prop) (w : va_W) (Z : Option Value → va_W → Prop) : Array Value → State → Outcome → State → Prop := fun _ st o t =>
  ∃ (v : Option Value) (w' : va_W), o = .returned v ∧ Z v w' ∧ w'.map (fun q => q.1) = w.map (fun q => q.1) ∧ va_P D cl w' t.heap ∧ va_F A st t
theorem gx_blind {av : List Value} {D : va_G} {cl : List vw_C} {tys : List (ClassId × FieldType)} {w : va_W} : FrameBlind (va_Pc av (gx_I D cl tys w)) :=
  fun _ U g mk q => ⟨q.1, q.2.1, va_K.moved (u := U) (U := U.calling g mk _) (Vm.Alike.refl U.vm) q.2.2.1, q.2.2.2⟩
theorem gx_Dadr {A : Nat → Prop} {w w' : va_W} (h : va_D A w) (e : w'.map (fun q => q.1) = w.map (fun q => q.1)) : va_D A w' := by
  have key : ∀ (k : Nat) (q : Nat × va_E), w'[k]? = some q → ∃ q', w[k]? = some q' ∧ q'.1 = q.1 := by
    intro k q hk
    have h1 : (w'.map (fun q => q.1))[k]? = some q.1 := by rw [List.getElem?_map, hk]; rfl
    rw [e, List.getElem?_map] at h1
    cases h2 : w[k]? with
    | none => rw [h2] at h1; cases h1
    | some q' => rw [h2] at h1; exact ⟨q', rfl, Option.some.inj h1⟩
  refine ⟨fun i j x y hi hj hxy => ?_, fun k q hk => ?_⟩
  · obtain ⟨x', a1, a2⟩ := key i x hi
    obtain ⟨y', b1, b2⟩ := key j y hj
    exact h.1 i j x' y' a1 b1 (a2.trans (hxy.trans b2.symm))
  · obtain ⟨q', a1, a2⟩ := key k q hk
    rw [← a2]
    exact h.2 k q' a1
/-- the values of an array matter within its length alone -/
theorem gx_ext {D : va_G} {cl : List vw_C} {w : va_W} {H : Heap} {a n q0 : Nat} {cA : ClassId} {f g : Nat → Int32} (hP : va_P D cl w H) (ha : w[q0]? = some (a, .inl (cA, n, .inl f))) (h : ∀ j, j < n → f j = g j) : va_P D cl (w.set q0 (a, .inl (cA, n, .inl g))) H := by
  have hl := (List.getElem?_eq_some_iff.mp ha).1
  intro k q hk
  by_cases hkp : k = q0
  · subst hkp
    rw [List.getElem?_set_self hl] at hk
    cases hk
    have h1 : H[a]? = some (vp_cell cA (n, .inl f)) := hP k _ ha
    show H[a]? = some (vp_cell cA (n, .inl g))
    rw [h1, vp_cell_i, vp_cell_i]
    congr 1
    unfold arrV
    congr 1
    apply Array.ext
    · simp
    · intro i i1 i2
      simp at i1
      simp [h i i1]
  · rw [List.getElem?_set_ne (Ne.symm hkp)] at hk
    exact hP k q hk
theorem gx_narb (b : Bool) : narrow .boolean (.int (zb_e b)) = .int (zb_e b) := by
  cases b <;> rfl
section GX
variable {l : Launch}
theorem gx_pureI {y : MethodName} {ws' : List Cond} {rm : Room} {cc : ByteArray} {maxL : Nat} {av : List Value} {r : Int32} {D : va_G} {cl : List vw_C} {tys : List (ClassId × FieldType)} {w : va_W}
    (hy : plainName y.cls = true) (hlen : (lg_sl av).length ≤ maxL)
    (body : ∀ (p : Program) (e : Env) (s : State) (m : MethodId) (args : Array Value) (below : List Frame) (meth : Method) (c : Code) (ls : Array Slot) (Q : State → Prop), p.tables.exec = Jvm.exec → c.code = cc → c.maxLocals = maxL →
      (∀ w ∈ ws', w.before args s = true) → s.vm.findClass y.cls = some m.cls →
      (∀ (pc : Nat) (ls : Array Slot) (v : Int32), decode cc pc = .ok (.ireturn, 1) → v = r → W p l e rm s m args below meth c s.heap [] 0 0 Q (F0 m pc ls [.int (v)])) →
      va_P D cl w s.heap → va_K D cl tys s → va_D (fun _ => True) w → lv_has ls maxL (lv_args 0 av) → W p l e rm s m args below meth c s.heap [] 0 0 Q (F0 m 0 ls [])) :
    Met l y (Cond.code y cc maxL (some .int) :: ws') rm (va_Pc av (gx_I D cl tys w)) (QcRead r) 0 0 (fun _ => False) := by
  refine Met.ofW (cc := cc) (maxL := maxL) (ret := some .int) hy rfl ?_
  intro p e s m args below meth c s₁ B hml hv
  obtain ⟨rfl, hP, hK, hD⟩ := hv
  have hl := lv_entry av (n := maxL) hlen
  rw [lg_entry_eq]
  refine body p e s m _ below meth c _ _ B.exec B.bytes hml (fun w h => atoms_spec (ws := Cond.code y cc maxL (some .int) :: ws') B.pre w (List.mem_cons_of_mem _ h)) (findClass_of_methodNamed B.named) (fun pc ls v hdg h => ?_) hP hK hD hl
  subst h
  exact W.iret B.exec B.bytes B.returns (fun t ht _ => ⟨rfl, ht⟩) t_nil hdg B.notSynchronized
theorem gx_pureZ {y : MethodName} {ws' : List Cond} {rm : Room} {cc : ByteArray} {maxL : Nat} {av : List Value} {r : Int32} {D : va_G} {cl : List vw_C} {tys : List (ClassId × FieldType)} {w : va_W}
    (hy : plainName y.cls = true) (hlen : (lg_sl av).length ≤ maxL)
    (body : ∀ (p : Program) (e : Env) (s : State) (m : MethodId) (args : Array Value) (below : List Frame) (meth : Method) (c : Code) (ls : Array Slot) (Q : State → Prop), p.tables.exec = Jvm.exec → c.code = cc → c.maxLocals = maxL →
      (∀ w ∈ ws', w.before args s = true) → s.vm.findClass y.cls = some m.cls →
      (∀ (pc : Nat) (ls : Array Slot) (v : Bool), decode cc pc = .ok (.ireturn, 1) → zb_e v = r → W p l e rm s m args below meth c s.heap [] 0 0 Q (F0 m pc ls [.int (zb_e v)])) →
      va_P D cl w s.heap → va_K D cl tys s → va_D (fun _ => True) w → lv_has ls maxL (lv_args 0 av) → W p l e rm s m args below meth c s.heap [] 0 0 Q (F0 m 0 ls [])) :
    Met l y (Cond.code y cc maxL (some .boolean) :: ws') rm (va_Pc av (gx_I D cl tys w)) (QcRead r) 0 0 (fun _ => False) := by
  refine Met.ofW (cc := cc) (maxL := maxL) (ret := some .boolean) hy rfl ?_
  intro p e s m args below meth c s₁ B hml hv
  obtain ⟨rfl, hP, hK, hD⟩ := hv
  have hl := lv_entry av (n := maxL) hlen
  rw [lg_entry_eq]
  refine body p e s m _ below meth c _ _ B.exec B.bytes hml (fun w h => atoms_spec (ws := Cond.code y cc maxL (some .boolean) :: ws') B.pre w (List.mem_cons_of_mem _ h)) (findClass_of_methodNamed B.named) (fun pc ls v hdg h => ?_) hP hK hD hl
  subst h
  exact W.zret B.exec B.bytes B.returns (gx_narb v) (fun t ht _ => ⟨rfl, ht⟩) t_nil hdg B.notSynchronized
theorem gx_mutV {y : MethodName} {ws' : List Cond} {rm : Room} {cc : ByteArray} {maxL mc ms : Nat} {av : List Value} {A : Nat → Prop} {Z : Option Value → va_W → Prop} {D : va_G} {cl : List vw_C} {tys : List (ClassId × FieldType)} {w : va_W}
    (hy : plainName y.cls = true) (hlen : (lg_sl av).length ≤ maxL) (hA : ∀ (k : Nat) (q : Nat × va_E), w[k]? = some q → A q.1)
    (body : ∀ (p : Program) (e : Env) (s : State) (m : MethodId) (args : Array Value) (below : List Frame) (meth : Method) (c : Code) (ls : Array Slot) (Q : State → Prop), p.tables.exec = Jvm.exec → c.code = cc → c.maxLocals = maxL →
      (∀ w ∈ ws', w.before args s = true) → s.vm.findClass y.cls = some m.cls →
      (∀ (pc : Nat) (ls : Array Slot) (w' : va_W) (H : Heap) (locs : List Loc), decode cc pc = .ok (.return_, 1) → va_P D cl w' H → va_S A s.heap H locs → w'.map (fun q => q.1) = w.map (fun q => q.1) → Z (none) w' → W p l e rm s m args below meth c H locs mc ms Q (F0 m pc ls [])) →
      va_P D cl w s.heap → va_K D cl tys s → va_D A w → va_S A s.heap s.heap [] → lv_has ls maxL (lv_args 0 av) → W p l e rm s m args below meth c s.heap [] 0 0 Q (F0 m 0 ls [])) :
    Met l y (Cond.code y cc maxL (none) :: ws') rm (va_Pc av (gx_I D cl tys w)) (gx_Q D cl A w Z) mc ms A := by
  refine Met.ofW (cc := cc) (maxL := maxL) (ret := none) hy rfl ?_
  intro p e s m args below meth c s₁ B hml hv
  obtain ⟨rfl, hP, hK, hD⟩ := hv
  have hl := lv_entry av (n := maxL) hlen
  rw [lg_entry_eq]
  refine body p e s m _ below meth c _ _ B.exec B.bytes hml (fun w h => atoms_spec (ws := Cond.code y cc maxL (none) :: ws') B.pre w (List.mem_cons_of_mem _ h)) (findClass_of_methodNamed B.named) (fun pc ls w' H locs hdg hP hS hadr hZ => ?_) hP hK (hD.weaken (fun k q hk _ => hA k q hk)) va_S.rf hl
  exact W.vret B.exec B.bytes B.returns (fun t ht _ => ⟨none, w', rfl, hZ, hadr, by rw [ht]; exact hP, hS.F ht⟩) hS.2.2 hdg B.notSynchronized
theorem gx_mutI {y : MethodName} {ws' : List Cond} {rm : Room} {cc : ByteArray} {maxL mc ms : Nat} {av : List Value} {A : Nat → Prop} {Z : Option Value → va_W → Prop} {D : va_G} {cl : List vw_C} {tys : List (ClassId × FieldType)} {w : va_W}
    (hy : plainName y.cls = true) (hlen : (lg_sl av).length ≤ maxL) (hA : ∀ (k : Nat) (q : Nat × va_E), w[k]? = some q → A q.1)
    (body : ∀ (p : Program) (e : Env) (s : State) (m : MethodId) (args : Array Value) (below : List Frame) (meth : Method) (c : Code) (ls : Array Slot) (Q : State → Prop), p.tables.exec = Jvm.exec → c.code = cc → c.maxLocals = maxL →
      (∀ w ∈ ws', w.before args s = true) → s.vm.findClass y.cls = some m.cls →
      (∀ (pc : Nat) (ls : Array Slot) (v : Int32) (w' : va_W) (H : Heap) (locs : List Loc), decode cc pc = .ok (.ireturn, 1) → va_P D cl w' H → va_S A s.heap H locs → w'.map (fun q => q.1) = w.map (fun q => q.1) → Z (some (.int v)) w' → W p l e rm s m args below meth c H locs mc ms Q (F0 m pc ls [.int v])) →
      va_P D cl w s.heap → va_K D cl tys s → va_D A w → va_S A s.heap s.heap [] → lv_has ls maxL (lv_args 0 av) → W p l e rm s m args below meth c s.heap [] 0 0 Q (F0 m 0 ls [])) :
    Met l y (Cond.code y cc maxL (some .int) :: ws') rm (va_Pc av (gx_I D cl tys w)) (gx_Q D cl A w Z) mc ms A := by
  refine Met.ofW (cc := cc) (maxL := maxL) (ret := some .int) hy rfl ?_
  intro p e s m args below meth c s₁ B hml hv
  obtain ⟨rfl, hP, hK, hD⟩ := hv
  have hl := lv_entry av (n := maxL) hlen
  rw [lg_entry_eq]
  refine body p e s m _ below meth c _ _ B.exec B.bytes hml (fun w h => atoms_spec (ws := Cond.code y cc maxL (some .int) :: ws') B.pre w (List.mem_cons_of_mem _ h)) (findClass_of_methodNamed B.named) (fun pc ls v w' H locs hdg hP hS hadr hZ => ?_) hP hK (hD.weaken (fun k q hk _ => hA k q hk)) va_S.rf hl
  exact W.iret B.exec B.bytes B.returns (fun t ht _ => ⟨some (.int v), w', rfl, hZ, hadr, by rw [ht]; exact hP, hS.F ht⟩) hS.2.2 hdg B.notSynchronized
theorem gx_mutZ {y : MethodName} {ws' : List Cond} {rm : Room} {cc : ByteArray} {maxL mc ms : Nat} {av : List Value} {A : Nat → Prop} {Z : Option Value → va_W → Prop} {D : va_G} {cl : List vw_C} {tys : List (ClassId × FieldType)} {w : va_W}
    (hy : plainName y.cls = true) (hlen : (lg_sl av).length ≤ maxL) (hA : ∀ (k : Nat) (q : Nat × va_E), w[k]? = some q → A q.1)
    (body : ∀ (p : Program) (e : Env) (s : State) (m : MethodId) (args : Array Value) (below : List Frame) (meth : Method) (c : Code) (ls : Array Slot) (Q : State → Prop), p.tables.exec = Jvm.exec → c.code = cc → c.maxLocals = maxL →
      (∀ w ∈ ws', w.before args s = true) → s.vm.findClass y.cls = some m.cls →
      (∀ (pc : Nat) (ls : Array Slot) (v : Bool) (w' : va_W) (H : Heap) (locs : List Loc), decode cc pc = .ok (.ireturn, 1) → va_P D cl w' H → va_S A s.heap H locs → w'.map (fun q => q.1) = w.map (fun q => q.1) → Z (some (.int (zb_e v))) w' → W p l e rm s m args below meth c H locs mc ms Q (F0 m pc ls [.int (zb_e v)])) →
      va_P D cl w s.heap → va_K D cl tys s → va_D A w → va_S A s.heap s.heap [] → lv_has ls maxL (lv_args 0 av) → W p l e rm s m args below meth c s.heap [] 0 0 Q (F0 m 0 ls [])) :
    Met l y (Cond.code y cc maxL (some .boolean) :: ws') rm (va_Pc av (gx_I D cl tys w)) (gx_Q D cl A w Z) mc ms A := by
  refine Met.ofW (cc := cc) (maxL := maxL) (ret := some .boolean) hy rfl ?_
  intro p e s m args below meth c s₁ B hml hv
  obtain ⟨rfl, hP, hK, hD⟩ := hv
  have hl := lv_entry av (n := maxL) hlen
  rw [lg_entry_eq]
  refine body p e s m _ below meth c _ _ B.exec B.bytes hml (fun w h => atoms_spec (ws := Cond.code y cc maxL (some .boolean) :: ws') B.pre w (List.mem_cons_of_mem _ h)) (findClass_of_methodNamed B.named) (fun pc ls v w' H locs hdg hP hS hadr hZ => ?_) hP hK (hD.weaken (fun k q hk _ => hA k q hk)) va_S.rf hl
  exact W.zret B.exec B.bytes B.returns (gx_narb v) (fun t ht _ => ⟨some (.int (zb_e v)), w', rfl, hZ, hadr, by rw [ht]; exact hP, hS.F ht⟩) hS.2.2 hdg B.notSynchronized
theorem gx_statI {y : MethodName} {ws' : List Cond} {rm : Room} {cc : ByteArray} {maxL : Nat} {av : List Value} {r : Int32}
    (hy : plainName y.cls = true) (hlen : (lg_sl av).length ≤ maxL)
    (body : ∀ (p : Program) (e : Env) (s : State) (m : MethodId) (args : Array Value) (below : List Frame) (meth : Method) (c : Code) (ls : Array Slot) (Q : State → Prop), p.tables.exec = Jvm.exec → c.code = cc → c.maxLocals = maxL →
      (∀ w ∈ ws', w.before args s = true) → s.vm.findClass y.cls = some m.cls →
      (∀ (pc : Nat) (ls : Array Slot) (v : Int32), decode cc pc = .ok (.ireturn, 1) → v = r → W p l e rm s m args below meth c s.heap [] 0 0 Q (F0 m pc ls [.int (v)])) →
      lv_has ls maxL (lv_args 0 av) → W p l e rm s m args below meth c s.heap [] 0 0 Q (F0 m 0 ls [])) :
    Met l y (Cond.code y cc maxL (some .int) :: ws') rm (fun v _ => v = av.toArray) (QcRead r) 0 0 (fun _ => False) := by
  refine Met.ofW (cc := cc) (maxL := maxL) (ret := some .int) hy rfl ?_
  intro p e s m args below meth c s₁ B hml hv
  subst hv
  have hl := lv_entry av (n := maxL) hlen
  rw [lg_entry_eq]
  refine body p e s m _ below meth c _ _ B.exec B.bytes hml (fun w h => atoms_spec (ws := Cond.code y cc maxL (some .int) :: ws') B.pre w (List.mem_cons_of_mem _ h)) (findClass_of_methodNamed B.named) (fun pc ls v hdg h => ?_) hl
  subst h
  exact W.iret B.exec B.bytes B.returns (fun t ht _ => ⟨rfl, ht⟩) t_nil hdg B.notSynchronized
theorem gx_statZ {y : MethodName} {ws' : List Cond} {rm : Room} {cc : ByteArray} {maxL : Nat} {av : List Value} {r : Int32}
    (hy : plainName y.cls = true) (hlen : (lg_sl av).length ≤ maxL)
    (body : ∀ (p : Program) (e : Env) (s : State) (m : MethodId) (args : Array Value) (below : List Frame) (meth : Method) (c : Code) (ls : Array Slot) (Q : State → Prop), p.tables.exec = Jvm.exec → c.code = cc → c.maxLocals = maxL →
      (∀ w ∈ ws', w.before args s = true) → s.vm.findClass y.cls = some m.cls →
      (∀ (pc : Nat) (ls : Array Slot) (v : Bool), decode cc pc = .ok (.ireturn, 1) → zb_e v = r → W p l e rm s m args below meth c s.heap [] 0 0 Q (F0 m pc ls [.int (zb_e v)])) →
      lv_has ls maxL (lv_args 0 av) → W p l e rm s m args below meth c s.heap [] 0 0 Q (F0 m 0 ls [])) :
    Met l y (Cond.code y cc maxL (some .boolean) :: ws') rm (fun v _ => v = av.toArray) (QcRead r) 0 0 (fun _ => False) := by
  refine Met.ofW (cc := cc) (maxL := maxL) (ret := some .boolean) hy rfl ?_
  intro p e s m args below meth c s₁ B hml hv
  subst hv
  have hl := lv_entry av (n := maxL) hlen
  rw [lg_entry_eq]
  refine body p e s m _ below meth c _ _ B.exec B.bytes hml (fun w h => atoms_spec (ws := Cond.code y cc maxL (some .boolean) :: ws') B.pre w (List.mem_cons_of_mem _ h)) (findClass_of_methodNamed B.named) (fun pc ls v hdg h => ?_) hl
  subst h
  exact W.zret B.exec B.bytes B.returns (gx_narb v) (fun t ht _ => ⟨rfl, ht⟩) t_nil hdg B.notSynchronized
end GX
section GY
variable {p : Program} {l : Launch} {e : Env} {R : Room} {s : State} {m : MethodId} {args : Array Value} {below : List Frame} {meth : Method} {c : Code} {H : Heap} {locs : List Loc} {cells slots : Nat} {Q : State → Prop}
variable {cc : ByteArray} {pc : Nat} {ls : Array Slot} {rest : List Value} {D : va_G} {cl : List vw_C} {A : Nat → Prop} {a : Nat} {tys : List (ClassId × FieldType)} {w w' : va_W} {H0 : Heap} {Z : Option Value → va_W → Prop}
/-- a call that changes a world -/
theorem gx_go {mc ms : Nat} {st0 : List Value} {A1 : Nat → Prop} {av : Array Value} (hr : CallRun p l e R s m args below meth c H locs cells slots mc ms (F0 m pc ls st0) rest (gx_Q D cl A1 w Z av) A1) (hD : va_D A w) (hS : va_S A H0 H locs) (hA : ∀ q, A1 q → A q)
    (kk : ∀ (v : Option Value) (w' : va_W) (H1 : Heap) (locs1 : List Loc), Z v w' → va_P D cl w' H1 → va_D A w' → va_S A H0 H1 locs1 → H.size ≤ H1.size → (∀ q : Nat, q < H.size → ¬ A1 q → H1[q]? = H[q]?) → W p l e R s m args below meth c H1 locs1 (cells + mc) (slots + ms) Q (F0 m (pc + 3) ls (v.toList ++ rest))) :
    W p l e R s m args below meth c H locs cells slots Q (F0 m pc ls st0) := by
  intro T hT X
  obtain ⟨v, st₀, t, T', L, h0, X', hL, e1, ⟨v', w', hv, hZ, hadr, hP, hz, hk⟩, st⟩ := hr T hT X
  cases hv
  rw [h0] at hz hk
  obtain ⟨t2, a1, b1⟩ := kk v w' T'.heap (locs ++ L) hZ (by rw [e1]; exact hP) (gx_Dadr hD hadr)
    ⟨Nat.le_trans hS.1 (by rw [e1]; exact hz), fun q h1 h2 => by rw [e1, hk q (Nat.lt_of_lt_of_le h1 hS.1) (fun z => h2 (hA q z))]; exact hS.2.1 q h1 h2, fun q hq => by
      rcases List.mem_append.mp hq with h | h
      · exact hS.2.2 q h
      · exact hA _ (hL q h)⟩ (by rw [e1]; exact hz) (fun q h1 h2 => by rw [e1]; exact hk q h1 h2) T' rfl X'
  exact ⟨t2, st t2 a1, b1⟩
end GY
end
section
/-! the row of blocks that is counted -/
def fb_I (kd : Nat → Nat) (df : Nat → Bool) (f : Bool) (c b r : Nat) : Prop := r < c ∧ r ≤ b ∧ (∀ j, b ≤ j + r → j < b → us_b kd df f j = true) ∧ (r < b → us_b kd df f (b - r - 1) = false) ∧ ∀ s, s + c ≤ b → rn_b kd df f c s = false
theorem fb_0 {kd : Nat → Nat} {df : Nat → Bool} {f : Bool} {c : Nat} (hc : 1 ≤ c) : fb_I kd df f c 0 0 := ⟨hc, Nat.le_refl _, fun j _ h => by omega, fun h => by omega, fun s h => by omega⟩
theorem fb_no {kd : Nat → Nat} {df : Nat → Bool} {f : Bool} {c b r : Nat} (h : fb_I kd df f c b r) (hu : us_b kd df f b = false) : fb_I kd df f c (b + 1) 0 := by
  obtain ⟨h1, h2, h3, h4, h5⟩ := h
  refine ⟨by omega, by omega, fun j q1 q2 => by omega, fun _ => by rw [show b + 1 - 0 - 1 = b by omega]; exact hu, fun s hs => ?_⟩
  by_cases e : s + c ≤ b
  · exact h5 s e
  · refine cl_f.mpr (fun q => ?_)
    have := q.2 (b - s) (by omega)
    rw [show s + (b - s) = b by omega, hu] at this
    cases this
theorem fb_yes {kd : Nat → Nat} {df : Nat → Bool} {f : Bool} {c b r : Nat} (h : fb_I kd df f c b r) (hu : us_b kd df f b = true) (hr : r + 1 < c) : fb_I kd df f c (b + 1) (r + 1) := by
  obtain ⟨h1, h2, h3, h4, h5⟩ := h
  refine ⟨hr, by omega, fun j q1 q2 => ?_, fun q => ?_, fun s hs => ?_⟩
  · by_cases e : j = b
    · subst e
      exact hu
    · exact h3 j (by omega) (by omega)
  · rw [show b + 1 - (r + 1) - 1 = b - r - 1 by omega]
    exact h4 (by omega)
  · by_cases e : s + c ≤ b
    · exact h5 s e
    · refine cl_f.mpr (fun q => ?_)
      have hb : r < b := by omega
      have h6 := h4 hb
      have := q.2 (b - r - 1 - s) (by omega)
      rw [show s + (b - r - 1 - s) = b - r - 1 by omega, h6] at this
      cases this
theorem fb_hit {kd : Nat → Nat} {df : Nat → Bool} {f : Bool} {c b r : Nat} (h : fb_I kd df f c b r) (hu : us_b kd df f b = true) (hr : r + 1 = c) (hb : b < 16) : rm_b kd df f c = b + 1 - c := by
  obtain ⟨h1, h2, h3, h4, h5⟩ := h
  refine le_eq (by omega) (cl_t.mpr ⟨by omega, fun j hj => ?_⟩) (fun j hj => h5 j (by omega))
  by_cases e : b + 1 - c + j = b
  · rw [e]
    exact hu
  · exact h3 _ (by omega) (by omega)
theorem fb_end {kd : Nat → Nat} {df : Nat → Bool} {f : Bool} {c r : Nat} (h : fb_I kd df f c 16 r) : rm_b kd df f c = 16 := by
  refine le_no (fun j hj => ?_)
  by_cases e : j + c ≤ 16
  · exact h.2.2.2.2 j e
  · exact cl_f.mpr (fun q => e q.1)
end
section
/-! calls over one list of words that serves every method -/
def wg_ok (w : Cond) : Bool := (w.onTables && w.keeps) || (match w with | .arrayClass _ => true | _ => false)
theorem wg_sp {w : Cond} (h : wg_ok w = true) : (w.onTables && w.keeps) = true ∨ ∃ ty, w = .arrayClass ty := by
  unfold wg_ok at h
  cases hk : (w.onTables && w.keeps) with
  | true => exact Or.inl rfl
  | false =>
    rw [hk] at h
    cases w <;> simp at h
    exact Or.inr ⟨_, rfl⟩
theorem wg_all {wa : List Cond} (h : wa.all wg_ok = true) : GoodIn wa wa := fun w hw => ⟨hw, wg_sp (List.all_eq_true.mp h w hw)⟩
theorem wg_cons {wa : List Cond} (hg : GoodIn wa wa) {x : Cond} (hx : x ∈ wa) {ws : List Cond} (h : GoodIn wa ws) : GoodIn wa (x :: ws) := fun w hw => by
  rcases List.mem_cons.mp hw with rfl | h1
  · exact hg _ hx
  · exact h w h1
section GZ
variable {p : Program} {l : Launch} {e : Env} {R : Room} {s : State} {m : MethodId} {args : Array Value} {below : List Frame} {meth : Method} {c : Code} {H : Heap} {locs : List Loc} {cells slots : Nat} {Q : State → Prop}
variable {cc : ByteArray} {pc nL : Nat} {ls : Array Slot} {rest st0 : List Value} {D : va_G} {cl : List vw_C} {A : Nat → Prop} {a : Nat} {tys : List (ClassId × FieldType)} {w : va_W} {H0 : Heap} {Z : Option Value → va_W → Prop}
variable {wa : List Cond} {y : MethodName} {bytes : ByteArray} {maxL index n : Nat} {ret : Option FieldType} {own C : String} {rm : Room} {b : Addr} {As : List Value} {r : Int32}
/-- an instance method that reads -/
theorem gx_cV {q0 ci : Nat} {q : vw_C} {fs : List Value} (S : CallFix p m c cc nL s args wa own) (hg : GoodIn wa wa) (hM : Met l y (Cond.code y bytes maxL ret :: wa) rm (va_Pc (.ref b :: As) (gx_I D cl tys w)) (QcRead r) 0 0 (fun _ => False))
    (h1 : Cond.methodLink own index y ∈ wa) (h2 : Cond.instanceMethod y ∈ wa) (h3 : Cond.selects C y y ∈ wa) (h4 : Cond.initialized C ∈ wa) (h5 : Cond.code y bytes maxL ret ∈ wa)
    (hd : y.cls = C ∧ y.cls ≠ "java/lang/invoke/MethodHandle" ∧ y.cls ≠ "java/lang/invoke/VarHandle" ∧ (parseMethodDescriptor y.desc).map (fun d => d.parameters.length) = some n) (hn : As.length = n)
    (hrc : rm.cells = 0 ∧ rm.slots = 0) (hR : rm.frames + 1 ≤ R.frames ∧ 8 + (maxL + 11) + rm.locals ≤ R.locals) (hf : cells + 0 ≤ R.cells ∧ slots + 0 ≤ R.slots)
    (hK : va_K D cl tys s) (hP : va_P D cl w H) (hD : va_D A w) (hc : cl[ci]? = some q) (hq : q.1 = C) (he : w[q0]? = some (b, .inr (ci, fs)))
    (hsize : ls.size = nL) (hst : st0 = As.reverse ++ .ref b :: rest) (hW : (rest.map fun v => v.category).sum ≤ 8) (hdg : decode cc pc = .ok (.invokevirtual index, 3))
    (k : W p l e R s m args below meth c H locs cells slots Q (F0 m (pc + 3) ls (.int r :: rest))) : W p l e R s m args below meth c H locs cells slots Q (F0 m pc ls st0) := by
  have hG : GoodIn wa (wsV own index C y (Cond.code y bytes maxL ret :: wa)) := wg_cons hg h1 (wg_cons hg h2 (wg_cons hg h3 (wg_cons hg h4 (wg_cons hg h5 hg))))
  refine W.callR (W.runV (C := C) (g := F0 m pc ls st0) (As := As) (rest := rest) S hM (cwV n S.2.2.2.2 hG rfl hrc.1 hrc.2 hd hR) ⟨gx_blind, ?_, fun U hU hW => ⟨rfl, by rw [hU]; exact hP, va_K.moved hW.alike hK, hD.weaken (fun _ _ _ _ => trivial)⟩⟩ rfl hn hsize hst (lv_room hW) hdg hf) k
  subst hq
  exact va_recv hK hP hc he
/-- a static method that reads nothing -/
theorem gx_cS (S : CallFix p m c cc nL s args wa own) (hg : GoodIn wa wa) (hM : Met l y (Cond.code y bytes maxL ret :: wa) rm (fun v _ => v = As.toArray) (QcRead r) 0 0 (fun _ => False))
    (h1 : Cond.methodLink own index y ∈ wa) (h2 : Cond.static y ∈ wa) (h4 : Cond.initialized own ∈ wa) (h5 : Cond.code y bytes maxL ret ∈ wa)
    (hd : y.cls = own ∧ y.cls ≠ "java/lang/invoke/MethodHandle" ∧ y.cls ≠ "java/lang/invoke/VarHandle" ∧ (parseMethodDescriptor y.desc).map (fun d => d.parameters.length) = some n) (hn : As.length = n)
    (hrc : rm.cells = 0 ∧ rm.slots = 0) (hR : rm.frames + 1 ≤ R.frames ∧ 8 + (maxL + 11) + rm.locals ≤ R.locals) (hf : cells + 0 ≤ R.cells ∧ slots + 0 ≤ R.slots)
    (hsize : ls.size = nL) (hst : st0 = As.reverse ++ rest) (hW : (rest.map fun v => v.category).sum ≤ 8) (hdg : decode cc pc = .ok (.invokestatic index, 3))
    (k : W p l e R s m args below meth c H locs cells slots Q (F0 m (pc + 3) ls (.int r :: rest))) : W p l e R s m args below meth c H locs cells slots Q (F0 m pc ls st0) := by
  have hG : GoodIn wa (wsS own index y (Cond.code y bytes maxL ret :: wa)) := wg_cons hg h1 (wg_cons hg h2 (wg_cons hg h4 (wg_cons hg h5 hg)))
  exact W.callR (W.runS (g := F0 m pc ls st0) (As := As) (rest := rest) S hM (cwS n S.2.2.2.2 hG rfl hrc.1 hrc.2 hd hR) preEq rfl hn hsize hst (lv_room hW) hdg hf) k
/-- an instance method that changes its world -/
theorem gx_cM {q0 ci mc ms : Nat} {q : vw_C} {fs : List Value} {A1 : Nat → Prop} (S : CallFix p m c cc nL s args wa own) (hg : GoodIn wa wa) (hM : Met l y (Cond.code y bytes maxL ret :: wa) rm (va_Pc (.ref b :: As) (gx_I D cl tys w)) (gx_Q D cl A1 w Z) mc ms A1)
    (h1 : Cond.methodLink own index y ∈ wa) (h2 : Cond.instanceMethod y ∈ wa) (h3 : Cond.selects C y y ∈ wa) (h4 : Cond.initialized C ∈ wa) (h5 : Cond.code y bytes maxL ret ∈ wa)
    (hd : y.cls = C ∧ y.cls ≠ "java/lang/invoke/MethodHandle" ∧ y.cls ≠ "java/lang/invoke/VarHandle" ∧ (parseMethodDescriptor y.desc).map (fun d => d.parameters.length) = some n) (hn : As.length = n)
    (hrc : rm.cells = mc ∧ rm.slots = ms) (hR : rm.frames + 1 ≤ R.frames ∧ 8 + (maxL + 11) + rm.locals ≤ R.locals) (hf : cells + mc ≤ R.cells ∧ slots + ms ≤ R.slots)
    (hK : va_K D cl tys s) (hP : va_P D cl w H) (hD : va_D A w) (hS : va_S A H0 H locs) (hA : ∀ q, A1 q → A q) (hc : cl[ci]? = some q) (hq : q.1 = C) (he : w[q0]? = some (b, .inr (ci, fs)))
    (hsize : ls.size = nL) (hst : st0 = As.reverse ++ .ref b :: rest) (hW : (rest.map fun v => v.category).sum ≤ 8) (hdg : decode cc pc = .ok (.invokevirtual index, 3))
    (k : ∀ (v : Option Value) (w' : va_W) (H1 : Heap) (locs1 : List Loc), Z v w' → va_P D cl w' H1 → va_D A w' → va_S A H0 H1 locs1 → H.size ≤ H1.size → (∀ q : Nat, q < H.size → ¬ A1 q → H1[q]? = H[q]?) → W p l e R s m args below meth c H1 locs1 (cells + mc) (slots + ms) Q (F0 m (pc + 3) ls (v.toList ++ rest))) :
    W p l e R s m args below meth c H locs cells slots Q (F0 m pc ls st0) := by
  have hG : GoodIn wa (wsV own index C y (Cond.code y bytes maxL ret :: wa)) := wg_cons hg h1 (wg_cons hg h2 (wg_cons hg h3 (wg_cons hg h4 (wg_cons hg h5 hg))))
  refine gx_go (W.runV (C := C) (g := F0 m pc ls st0) (As := As) (rest := rest) S hM (cwV n S.2.2.2.2 hG rfl hrc.1 hrc.2 hd hR) ⟨gx_blind, ?_, fun U hU hW => ⟨rfl, by rw [hU]; exact hP, va_K.moved hW.alike hK, hD.weaken (fun _ _ _ _ => trivial)⟩⟩ rfl hn hsize hst (lv_room hW) hdg hf) hD hS hA k
  subst hq
  exact va_recv hK hP hc he
end GZ
end
section
/-! the worlds of the class and of the reference: cells at fixed addresses -/
theorem hg_all : GoodIn wa_all wa_all := wg_all (by decide +kernel)
theorem in_G : ∀ w ∈ u_ws R_G F_G 12, w ∈ wa_all := by
  intro w hw
  have e : u_ws R_G F_G 12 = [.laysFinal R_G R_G "roots" "[I", .laysFinal R_G R_G "kinds" "[I", .laysFinal R_G R_G "doubtful" "[Z", .laysFinal R_G R_G "words" "[I", .laysFinal R_G R_G "starts" "[I", .laysFinal R_G R_G "lengths" "[I", .laysFinal R_G R_G "unread" "[Z", .laysFinal R_G R_G "marked" "[Z", .laysFinal R_G R_G "found" "[I", .lays R_G R_G "foundCount" "I", .lays R_G R_G "objectCount" "I", .lays R_G R_G "collectionCount" "I"] := rfl
  rw [e] at hw
  simp only [List.mem_cons, List.not_mem_nil, or_false] at hw
  rcases hw with rfl | rfl | rfl | rfl | rfl | rfl | rfl | rfl | rfl | rfl | rfl | rfl
  · exact wm_67
  · exact wm_69
  · exact wm_71
  · exact wm_73
  · exact wm_75
  · exact wm_77
  · exact wm_79
  · exact wm_81
  · exact wm_83
  · exact wm_85
  · exact wm_87
  · exact wm_89
theorem in_M : ∀ w ∈ u_ws R_M F_M 11, w ∈ wa_all := by
  intro w hw
  have e : u_ws R_M F_M 11 = [.lays R_M R_M "thrown" "I", .lays R_M R_M "roots" "[I", .lays R_M R_M "word" "[I", .lays R_M R_M "of" "[I", .lays R_M R_M "many" "[I", .lays R_M R_M "quiet" "[Z", .lays R_M R_M "marked" "[Z", .lays R_M R_M "kind" "[I", .lays R_M R_M "doubtful" "[Z", .lays R_M R_M "collected" "I", .lays R_M R_M "given" "I"] := rfl
  rw [e] at hw
  simp only [List.mem_cons, List.not_mem_nil, or_false] at hw
  rcases hw with rfl | rfl | rfl | rfl | rfl | rfl | rfl | rfl | rfl | rfl | rfl
  · exact wm_357
  · exact wm_359
  · exact wm_361
  · exact wm_363
  · exact wm_365
  · exact wm_367
  · exact wm_369
  · exact wm_371
  · exact wm_373
  · exact wm_375
  · exact wm_377
def gw_G (ca : Nat → ClassId) (hs : Nat → Nat) (rt wd : Nat → Int32) (ob ln kd : Nat → Nat) (qt df mk : Nat → Bool) (fd : Nat → Nat) (fc oc cn : Nat) : va_W :=
  [(hs 0, .inr (0, [.ref (hs 1), .ref (hs 2), .ref (hs 3), .ref (hs 4), .ref (hs 5), .ref (hs 6), .ref (hs 7), .ref (hs 8), .ref (hs 9), .int (nI fc), .int (nI oc), .int (nI cn)])),
   (hs 1, .inl (ca 1, 8, .inl rt)),
   (hs 2, .inl (ca 2, 16, .inl (fun j => nI (kd j)))),
   (hs 3, .inl (ca 3, 16, .inl (fun j => zb_e (df j)))),
   (hs 4, .inl (ca 4, 512, .inl wd)),
   (hs 5, .inl (ca 5, 512, .inl (fun j => zs_e (ob j)))),
   (hs 6, .inl (ca 6, 512, .inl (fun j => nI (ln j)))),
   (hs 7, .inl (ca 7, 512, .inl (fun j => zb_e (qt j)))),
   (hs 8, .inl (ca 8, 512, .inl (fun j => zb_e (mk j)))),
   (hs 9, .inl (ca 9, 256, .inl (fun j => nI (fd j))))]
def ty_G (ca : Nat → ClassId) : List (ClassId × FieldType) := [(ca 1, .int), (ca 2, .int), (ca 3, .boolean), (ca 4, .int), (ca 5, .int), (ca 6, .int), (ca 7, .boolean), (ca 8, .boolean), (ca 9, .int)]
def gw_M (ca : Nat → ClassId) (hs : Nat → Nat) (rt wd : Nat → Int32) (ob ln kd : Nat → Nat) (qt df mk : Nat → Bool) (th cn gv : Nat) : va_W :=
  [(hs 0, .inr (1, [.int (nI th), .ref (hs 1), .ref (hs 2), .ref (hs 3), .ref (hs 4), .ref (hs 5), .ref (hs 6), .ref (hs 7), .ref (hs 8), .int (nI cn), .int (nI gv)])),
   (hs 1, .inl (ca 1, 8, .inl rt)),
   (hs 2, .inl (ca 2, 512, .inl wd)),
   (hs 3, .inl (ca 3, 512, .inl (fun j => nI (ob j)))),
   (hs 4, .inl (ca 4, 512, .inl (fun j => nI (ln j)))),
   (hs 5, .inl (ca 5, 512, .inl (fun j => zb_e (qt j)))),
   (hs 6, .inl (ca 6, 512, .inl (fun j => zb_e (mk j)))),
   (hs 7, .inl (ca 7, 16, .inl (fun j => nI (kd j)))),
   (hs 8, .inl (ca 8, 16, .inl (fun j => zb_e (df j))))]
def ty_M (ca : Nat → ClassId) : List (ClassId × FieldType) := [(ca 1, .int), (ca 2, .int), (ca 3, .int), (ca 4, .int), (ca 5, .boolean), (ca 6, .boolean), (ca 7, .int), (ca 8, .boolean)]
theorem gw_G_in {ca : Nat → ClassId} {hs : Nat → Nat} {rt wd : Nat → Int32} {ob ln kd : Nat → Nat} {qt df mk : Nat → Bool} {fd : Nat → Nat} {fc oc cn : Nat} : ∀ (k : Nat) (q : Nat × va_E), (gw_G ca hs rt wd ob ln kd qt df mk fd fc oc cn)[k]? = some q → gx_A hs 10 q.1 := by
  intro k q h
  have hm := List.mem_of_getElem? h
  unfold gw_G at hm
  simp only [List.mem_cons, List.not_mem_nil, or_false] at hm
  rcases hm with rfl | rfl | rfl | rfl | rfl | rfl | rfl | rfl | rfl | rfl
  · exact ⟨0, by decide, rfl⟩
  · exact ⟨1, by decide, rfl⟩
  · exact ⟨2, by decide, rfl⟩
  · exact ⟨3, by decide, rfl⟩
  · exact ⟨4, by decide, rfl⟩
  · exact ⟨5, by decide, rfl⟩
  · exact ⟨6, by decide, rfl⟩
  · exact ⟨7, by decide, rfl⟩
  · exact ⟨8, by decide, rfl⟩
  · exact ⟨9, by decide, rfl⟩
theorem gw_M_in {ca : Nat → ClassId} {hs : Nat → Nat} {rt wd : Nat → Int32} {ob ln kd : Nat → Nat} {qt df mk : Nat → Bool} {th cn gv : Nat} : ∀ (k : Nat) (q : Nat × va_E), (gw_M ca hs rt wd ob ln kd qt df mk th cn gv)[k]? = some q → gx_A hs 9 q.1 := by
  intro k q h
  have hm := List.mem_of_getElem? h
  unfold gw_M at hm
  simp only [List.mem_cons, List.not_mem_nil, or_false] at hm
  rcases hm with rfl | rfl | rfl | rfl | rfl | rfl | rfl | rfl | rfl
  · exact ⟨0, by decide, rfl⟩
  · exact ⟨1, by decide, rfl⟩
  · exact ⟨2, by decide, rfl⟩
  · exact ⟨3, by decide, rfl⟩
  · exact ⟨4, by decide, rfl⟩
  · exact ⟨5, by decide, rfl⟩
  · exact ⟨6, by decide, rfl⟩
  · exact ⟨7, by decide, rfl⟩
  · exact ⟨8, by decide, rfl⟩
theorem gw_G_adr {ca : Nat → ClassId} {hs : Nat → Nat} {rt wd : Nat → Int32} {ob ln kd : Nat → Nat} {qt df mk : Nat → Bool} {fd : Nat → Nat} {fc oc cn : Nat} : (gw_G ca hs rt wd ob ln kd qt df mk fd fc oc cn).map (fun q => q.1) = [hs 0, hs 1, hs 2, hs 3, hs 4, hs 5, hs 6, hs 7, hs 8, hs 9] := rfl
theorem gw_M_adr {ca : Nat → ClassId} {hs : Nat → Nat} {rt wd : Nat → Int32} {ob ln kd : Nat → Nat} {qt df mk : Nat → Bool} {th cn gv : Nat} : (gw_M ca hs rt wd ob ln kd qt df mk th cn gv).map (fun q => q.1) = [hs 0, hs 1, hs 2, hs 3, hs 4, hs 5, hs 6, hs 7, hs 8] := rfl
end
section
/-! methods that answer nothing and change nothing -/
def gx_V : Array Value → State → Outcome → State → Prop := fun _ st o t => o = .returned none ∧ t.heap = st.heap
section GV
variable {l : Launch}
theorem gx_pureV {y : MethodName} {ws' : List Cond} {rm : Room} {cc : ByteArray} {maxL : Nat} {av : List Value} {D : va_G} {cl : List vw_C} {tys : List (ClassId × FieldType)} {w : va_W}
    (hy : plainName y.cls = true) (hlen : (lg_sl av).length ≤ maxL)
    (body : ∀ (p : Program) (e : Env) (s : State) (m : MethodId) (args : Array Value) (below : List Frame) (meth : Method) (c : Code) (ls : Array Slot) (Q : State → Prop), p.tables.exec = Jvm.exec → c.code = cc → c.maxLocals = maxL →
      (∀ w ∈ ws', w.before args s = true) → s.vm.findClass y.cls = some m.cls →
      (∀ (pc : Nat) (ls : Array Slot), decode cc pc = .ok (.return_, 1) → W p l e rm s m args below meth c s.heap [] 0 0 Q (F0 m pc ls [])) →
      va_P D cl w s.heap → va_K D cl tys s → va_D (fun _ => True) w → lv_has ls maxL (lv_args 0 av) → W p l e rm s m args below meth c s.heap [] 0 0 Q (F0 m 0 ls [])) :
    Met l y (Cond.code y cc maxL none :: ws') rm (va_Pc av (gx_I D cl tys w)) gx_V 0 0 (fun _ => False) := by
  refine Met.ofW (cc := cc) (maxL := maxL) (ret := none) hy rfl ?_
  intro p e s m args below meth c s₁ B hml hv
  obtain ⟨rfl, hP, hK, hD⟩ := hv
  have hl := lv_entry av (n := maxL) hlen
  rw [lg_entry_eq]
  exact body p e s m _ below meth c _ _ B.exec B.bytes hml (fun w h => atoms_spec (ws := Cond.code y cc maxL none :: ws') B.pre w (List.mem_cons_of_mem _ h)) (findClass_of_methodNamed B.named)
    (fun pc ls hdg => W.vret B.exec B.bytes B.returns (fun t ht _ => ⟨rfl, ht⟩) t_nil hdg B.notSynchronized) hP hK hD hl
theorem gx_statV {y : MethodName} {ws' : List Cond} {rm : Room} {cc : ByteArray} {maxL : Nat} {av : List Value}
    (hy : plainName y.cls = true) (hlen : (lg_sl av).length ≤ maxL)
    (body : ∀ (p : Program) (e : Env) (s : State) (m : MethodId) (args : Array Value) (below : List Frame) (meth : Method) (c : Code) (ls : Array Slot) (Q : State → Prop), p.tables.exec = Jvm.exec → c.code = cc → c.maxLocals = maxL →
      (∀ w ∈ ws', w.before args s = true) → s.vm.findClass y.cls = some m.cls →
      (∀ (pc : Nat) (ls : Array Slot), decode cc pc = .ok (.return_, 1) → W p l e rm s m args below meth c s.heap [] 0 0 Q (F0 m pc ls [])) →
      lv_has ls maxL (lv_args 0 av) → W p l e rm s m args below meth c s.heap [] 0 0 Q (F0 m 0 ls [])) :
    Met l y (Cond.code y cc maxL none :: ws') rm (fun v _ => v = av.toArray) gx_V 0 0 (fun _ => False) := by
  refine Met.ofW (cc := cc) (maxL := maxL) (ret := none) hy rfl ?_
  intro p e s m args below meth c s₁ B hml hv
  subst hv
  have hl := lv_entry av (n := maxL) hlen
  rw [lg_entry_eq]
  exact body p e s m _ below meth c _ _ B.exec B.bytes hml (fun w h => atoms_spec (ws := Cond.code y cc maxL none :: ws') B.pre w (List.mem_cons_of_mem _ h)) (findClass_of_methodNamed B.named)
    (fun pc ls hdg => W.vret B.exec B.bytes B.returns (fun t ht _ => ⟨rfl, ht⟩) t_nil hdg B.notSynchronized) hl
end GV
theorem gx_set {D : va_G} {cl : List vw_C} {A : Nat → Prop} {p : Nat} {w : va_W} {a : Nat} {e0 e : va_E} {H H1 : Heap} (h : va_P D cl w H) (hD : va_D A w) (hp : w[p]? = some (a, e0)) (he : va_at D cl (a, e) H1) (oq : ∀ q : Nat, q < H.size → q ≠ a → H1[q]? = H[q]?) : va_P D cl (w.set p (a, e)) H1 := by
  have hl := (List.getElem?_eq_some_iff.mp hp).1
  intro k q hk
  by_cases hkp : k = p
  · subst hkp
    rw [List.getElem?_set_self hl] at hk
    cases hk
    exact he
  · rw [List.getElem?_set_ne (Ne.symm hkp)] at hk
    exact (h k q hk).kept (oq q.1 (h k q hk).lt (fun z => hkp (hD.1 k p q (a, e0) hk hp z)))
section GW
variable {p : Program} {l : Launch} {e : Env} {R : Room} {s : State} {m : MethodId} {args : Array Value} {below : List Frame} {meth : Method} {c : Code} {H : Heap} {locs : List Loc} {cells slots : Nat} {Q : State → Prop}
variable {cc : ByteArray} {pc nL : Nat} {ls : Array Slot} {rest st0 : List Value} {D : va_G} {cl : List vw_C} {A : Nat → Prop} {a : Nat} {tys : List (ClassId × FieldType)} {w : va_W} {H0 : Heap}
variable {wa : List Cond} {y : MethodName} {bytes : ByteArray} {maxL index n : Nat} {own C : String} {rm : Room} {b : Addr} {As : List Value}
theorem gx_goV {a : Array Value} (hr : CallRun p l e R s m args below meth c H locs cells slots 0 0 (F0 m pc ls st0) rest (gx_V a) (fun _ => False)) (k : W p l e R s m args below meth c H locs cells slots Q (F0 m (pc + 3) ls rest)) : W p l e R s m args below meth c H locs cells slots Q (F0 m pc ls st0) := by
  intro T hT X
  obtain ⟨v, st₀, t, T', L, h0, X', hL, e1, ⟨hv, hh⟩, st⟩ := hr T hT X
  cases hv
  obtain ⟨t2, a1, b1⟩ := k T' (by rw [e1, hh, h0]) (Stand.forget X' (fun q h => (hL q h).elim))
  exact ⟨t2, st t2 a1, b1⟩
theorem gx_cVv {q0 ci : Nat} {q : vw_C} {fs : List Value} (S : CallFix p m c cc nL s args wa own) (hg : GoodIn wa wa) (hM : Met l y (Cond.code y bytes maxL none :: wa) rm (va_Pc (.ref b :: As) (gx_I D cl tys w)) gx_V 0 0 (fun _ => False))
    (h1 : Cond.methodLink own index y ∈ wa) (h2 : Cond.instanceMethod y ∈ wa) (h3 : Cond.selects C y y ∈ wa) (h4 : Cond.initialized C ∈ wa) (h5 : Cond.code y bytes maxL none ∈ wa)
    (hd : y.cls = C ∧ y.cls ≠ "java/lang/invoke/MethodHandle" ∧ y.cls ≠ "java/lang/invoke/VarHandle" ∧ (parseMethodDescriptor y.desc).map (fun d => d.parameters.length) = some n) (hn : As.length = n)
    (hrc : rm.cells = 0 ∧ rm.slots = 0) (hR : rm.frames + 1 ≤ R.frames ∧ 8 + (maxL + 11) + rm.locals ≤ R.locals) (hf : cells + 0 ≤ R.cells ∧ slots + 0 ≤ R.slots)
    (hK : va_K D cl tys s) (hP : va_P D cl w H) (hD : va_D A w) (hc : cl[ci]? = some q) (hq : q.1 = C) (he : w[q0]? = some (b, .inr (ci, fs)))
    (hsize : ls.size = nL) (hst : st0 = As.reverse ++ .ref b :: rest) (hW : (rest.map fun v => v.category).sum ≤ 8) (hdg : decode cc pc = .ok (.invokevirtual index, 3))
    (k : W p l e R s m args below meth c H locs cells slots Q (F0 m (pc + 3) ls rest)) : W p l e R s m args below meth c H locs cells slots Q (F0 m pc ls st0) := by
  have hG : GoodIn wa (wsV own index C y (Cond.code y bytes maxL none :: wa)) := wg_cons hg h1 (wg_cons hg h2 (wg_cons hg h3 (wg_cons hg h4 (wg_cons hg h5 hg))))
  refine gx_goV (W.runV (C := C) (g := F0 m pc ls st0) (As := As) (rest := rest) S hM (cwV n S.2.2.2.2 hG rfl hrc.1 hrc.2 hd hR) ⟨gx_blind, ?_, fun U hU hW => ⟨rfl, by rw [hU]; exact hP, va_K.moved hW.alike hK, hD.weaken (fun _ _ _ _ => trivial)⟩⟩ rfl hn hsize hst (lv_room hW) hdg hf) k
  subst hq
  exact va_recv hK hP hc he
theorem gx_cSv (S : CallFix p m c cc nL s args wa own) (hg : GoodIn wa wa) (hM : Met l y (Cond.code y bytes maxL none :: wa) rm (fun v _ => v = As.toArray) gx_V 0 0 (fun _ => False))
    (h1 : Cond.methodLink own index y ∈ wa) (h2 : Cond.static y ∈ wa) (h4 : Cond.initialized own ∈ wa) (h5 : Cond.code y bytes maxL none ∈ wa)
    (hd : y.cls = own ∧ y.cls ≠ "java/lang/invoke/MethodHandle" ∧ y.cls ≠ "java/lang/invoke/VarHandle" ∧ (parseMethodDescriptor y.desc).map (fun d => d.parameters.length) = some n) (hn : As.length = n)
    (hrc : rm.cells = 0 ∧ rm.slots = 0) (hR : rm.frames + 1 ≤ R.frames ∧ 8 + (maxL + 11) + rm.locals ≤ R.locals) (hf : cells + 0 ≤ R.cells ∧ slots + 0 ≤ R.slots)
    (hsize : ls.size = nL) (hst : st0 = As.reverse ++ rest) (hW : (rest.map fun v => v.category).sum ≤ 8) (hdg : decode cc pc = .ok (.invokestatic index, 3))
    (k : W p l e R s m args below meth c H locs cells slots Q (F0 m (pc + 3) ls rest)) : W p l e R s m args below meth c H locs cells slots Q (F0 m pc ls st0) := by
  have hG : GoodIn wa (wsS own index y (Cond.code y bytes maxL none :: wa)) := wg_cons hg h1 (wg_cons hg h2 (wg_cons hg h4 (wg_cons hg h5 hg)))
  exact gx_goV (W.runS (g := F0 m pc ls st0) (As := As) (rest := rest) S hM (cwS n S.2.2.2.2 hG rfl hrc.1 hrc.2 hd hR) preEq rfl hn hsize hst (lv_room hW) hdg hf) k
/-- a static method of another class that changes one array cell -/
theorem gx_cF {q0 : Nat} {f g : Nat → Int32} {cA : ClassId} {N : Nat} (S : CallFix p m c cc nL s args wa own) (hg : GoodIn wa wa) (hM : Met l y (Cond.code y bytes maxL none :: wa) rm (va_Pc As (gx_I D cl [(cA, .int)] [(a, .inl (cA, N, .inl f))])) (gx_Q D cl (fun q => q = a) [(a, .inl (cA, N, .inl f))] (fun v w' => v = none ∧ w' = [(a, .inl (cA, N, .inl g))])) 0 0 (fun q => q = a))
    (h1 : Cond.methodLink own index y ∈ wa) (h2 : Cond.static y ∈ wa) (h4 : Cond.initialized y.cls ∈ wa) (h5 : Cond.code y bytes maxL none ∈ wa)
    (hd : y.cls ≠ "java/lang/invoke/MethodHandle" ∧ y.cls ≠ "java/lang/invoke/VarHandle" ∧ (parseMethodDescriptor y.desc).map (fun d => d.parameters.length) = some n) (hn : As.length = n)
    (hrc : rm.cells = 0 ∧ rm.slots = 0) (hR : rm.frames + 1 ≤ R.frames ∧ 8 + (maxL + 11) + rm.locals ≤ R.locals) (hf : cells + 0 ≤ R.cells ∧ slots + 0 ≤ R.slots)
    (hK : va_K D cl tys s) (hP : va_P D cl w H) (hD : va_D A w) (hS : va_S A H0 H locs) (ha : w[q0]? = some (a, .inl (cA, N, .inl f))) (t0 : Nat) (ht : tys[t0]? = some (cA, .int))
    (hsize : ls.size = nL) (hst : st0 = As.reverse ++ rest) (hW : (rest.map fun v => v.category).sum ≤ 8) (hdg : decode cc pc = .ok (.invokestatic index, 3))
    (k : ∀ (H1 : Heap) (locs1 : List Loc), va_P D cl (w.set q0 (a, .inl (cA, N, .inl g))) H1 → va_D A (w.set q0 (a, .inl (cA, N, .inl g))) → va_S A H0 H1 locs1 → W p l e R s m args below meth c H1 locs1 cells slots Q (F0 m (pc + 3) ls rest)) :
    W p l e R s m args below meth c H locs cells slots Q (F0 m pc ls st0) := by
  have ok : ∀ w ∈ wa, w.before args s = true := S.2.2.2.2
  have hAa : A a := hD.2 q0 _ ha
  have hP1 : va_P D cl [(a, .inl (cA, N, .inl f))] H := by
    intro j q hj
    have hz : j < 1 := (List.getElem?_eq_some_iff.mp hj).1
    rw [show j = 0 by omega] at hj
    cases hj
    exact hP q0 _ ha
  have hD1 : va_D (fun _ => True) [(a, (.inl (cA, N, .inl f) : va_E))] := ⟨fun i j x y hi hj _ => by
    have := (List.getElem?_eq_some_iff.mp hi).1
    have := (List.getElem?_eq_some_iff.mp hj).1
    simp at *
    omega, fun _ _ _ => trivial⟩
  have hK1 : va_K D cl [(cA, .int)] s := ⟨hK.1, fun j q hj => by
    have hz : j < 1 := (List.getElem?_eq_some_iff.mp hj).1
    rw [show j = 0 by omega] at hj
    cases hj
    exact hK.2 t0 _ ht⟩
  have cw : CallB R s args own index y bytes maxL none (Cond.code y bytes maxL none :: wa) rm 0 0 n ∧ (Cond.static y).before args s = true :=
    ⟨callB_of n ok (wg_cons hg h5 hg) rfl hrc.1 hrc.2 (ok _ h4) (ok _ h1) hd hR, ok _ h2⟩
  have hr := W.runS (l := l) (e := e) (below := below) (meth := meth) (H := H) (locs := locs) (cells := cells) (slots := slots) (g := F0 m pc ls st0) (As := As) (rest := rest) S hM cw ⟨gx_blind, fun U hU hW => ⟨rfl, by rw [hU]; exact hP1, va_K.moved hW.alike hK1, hD1⟩⟩ rfl hn hsize hst (lv_room hW) hdg hf
  intro T hT X
  obtain ⟨v, st₀, t, T', L, h0, X', hL, e1, ⟨v', w', hv, ⟨rfl, rfl⟩, -, hP2, hz, hk⟩, st⟩ := hr T hT X
  cases hv
  rw [h0] at hz hk
  have hcell : T'.heap[a]? = some (vp_cell cA (N, .inl g)) := by rw [e1]; exact hP2 0 _ rfl
  have oq : ∀ q : Nat, q < H.size → q ≠ a → T'.heap[q]? = H[q]? := fun q hlt hq => by
    rw [e1]
    exact hk q hlt hq
  obtain ⟨t2, a1, b1⟩ := k T'.heap (locs ++ L) (gx_set hP hD ha hcell oq) (hD.set ha)
    ⟨Nat.le_trans hS.1 (by rw [e1]; exact hz), fun q g1 g2 => by rw [oq q (Nat.lt_of_lt_of_le g1 hS.1) (fun e => g2 (by rw [e]; exact hAa))]; exact hS.2.1 q g1 g2, fun q hq => by
      rcases List.mem_append.mp hq with h | h
      · exact hS.2.2 q h
      · have : q.base = a := hL q h
        rw [this]
        exact hAa⟩ T' rfl X'
  exact ⟨t2, st t2 a1, b1⟩
end GW
end
section
/-! an exception's constructor, its cells told; a throw that is caught -/
section XC
variable {p : Program} {l : Launch} {e : Env} {R : Room} {s : State} {m : MethodId} {args : Array Value} {below : List Frame} {meth : Method} {c : Code} {H : Heap} {locs : List Loc} {cells slots : Nat} {Q : State → Prop}
set_option maxHeartbeats 4000000 in
theorem xt_ctor {cc : ByteArray} (hexec : p.tables.exec = Jvm.exec) (hb : c.code = cc) (htr : ∀ e : Env, l.admits e → e.platform.stackTraces = false) {own cls : String} {names : List String} {ic : Nat}
    (hown : s.vm.findClass own = some m.cls) (hcls : Bundle.fit cls = true) (hnames : ∀ n ∈ names, Bundle.fit n = true)
    (h : ∀ a ∈ Bundle.ownAtoms own ic cls names, a.before args s = true)
    (hlocs : ∀ x ∈ locs, ∀ cell, s.heap[x.base]? = some cell → cell.vm.isStatics = false)
    {a : Addr} {cX : ClassId} {kX : Class} (hfoundX : s.vm.findClass cls = some cX) (hkX : s.vm.classes[cX]? = some kX) (hcell : H[a]? = some (freshCell cX kX)) (hnew : s.heap.size ≤ a)
    {msg : Value} (hmsg : msg.isRef = true) {pc : Nat} {ls : Array Slot} {rest : List Value} (hsize : ls.size = c.maxLocals)
    (hd6 : decode cc pc = .ok (.invokespecial ic, 3))
    (hRframes : names.length + 3 < R.frames) (hRlocals : ((Value.ref a :: rest).map fun v => v.category).sum + (13 * (names.length + 1) + 42) ≤ R.locals)
    (kk : ∀ cell' : Cell, cell'.cls = cX → cell'.vm = .none → W p l e R s m args below meth c (H.setIfInBounds a cell') locs cells slots Q (F0 m (pc + 3) ls (.ref a :: rest))) :
    W p l e R s m args below meth c H locs cells slots Q (F0 m pc ls (msg :: .ref a :: .ref a :: rest)) := by
  intro T0 hT0 X
  subst hb
  have htr := htr e X.admits
  have hcell : T0.heap[a]? = some (freshCell cX kX) := by rw [hT0]; exact hcell
  have howns : e.platform.frameOwnsMonitors = true := by rw [X.admits.platform]
  have hfin : e.platform.finalization = false := by rw [X.admits.platform]
  have hpl : e.platform.magicAccessors = ({} : Platform).magicAccessors := by rw [X.admits.platform]
  have a' : ∀ x, x ∈ Bundle.ownAtoms own ic cls names → x.holds args s none s [] = true := fun x hx => h x hx
  obtain ⟨T, Z0, L, -, Y⟩ := ThrowableC.of_atoms (args := args) howns hfin hpl (fun x hx => h x (by simp [Bundle.ownAtoms, hx]))
  obtain ⟨Z, M, LZ, LM, hnZ⟩ := Init0T.ofS_atoms (args := args) hpl L Y (fun x hx => h x (by simp [Bundle.ownAtoms, hx]))
  obtain ⟨P1, Ps, hlen, L1, hL, hP1m, hlink1, hlink⟩ := Bundle.chainS (args := args) hpl hnZ names cls hcls hnames (fun x hx => h x (by simp [Bundle.ownAtoms, hx]))
  have hfound : s.vm.findClass cls = some P1.m.cls := findClass_of_methodNamed hP1m
  cases Option.some.inj (hfoundX.symm.trans hfound)
  obtain ⟨c1, kX', hc1, hk, hord, -, -, hn6⟩ := Cond.instantiable_spec (a' (.instantiable cls 6) (by simp [Bundle.ownAtoms]))
  cases Option.some.inj (hc1.symm.trans hfound)
  cases Option.some.inj (hkX.symm.trans hk)
  have hsel0 : selectMethod e.platform s.vm P1.m.cls T.fill0 = .method T.fill0 := by
    obtain ⟨c2, r2, m2, q1, q2, q3, q4, -⟩ := Cond.selects_spec (a' (.selects cls Bundle.tFill0 Bundle.tFill0) (by simp [Bundle.ownAtoms]))
    cases Option.some.inj (q1.symm.trans hfound)
    cases Option.some.inj (q2.symm.trans (State.methodFound?_of_named Y.fill0 (by decide)))
    cases Option.some.inj (q3.symm.trans Y.fill0)
    rw [Launch.admits_selectMethod X.admits]; exact q4
  have hselF : selectMethod e.platform s.vm P1.m.cls T.fill = .method T.fill := by
    obtain ⟨c2, r2, m2, q1, q2, q3, q4, -⟩ := Cond.selects_spec (a' (.selects cls Bundle.tFill Bundle.tFill) (by simp [Bundle.ownAtoms]))
    cases Option.some.inj (q1.symm.trans hfound)
    cases Option.some.inj (q2.symm.trans (State.methodFound?_of_named Y.fill (by decide)))
    cases Option.some.inj (q3.symm.trans Y.fill)
    rw [Launch.admits_selectMethod X.admits]; exact q4
  obtain ⟨cellS0, hcS0, hiss⟩ := Y.statics
  obtain ⟨u0, hu0⟩ := Cond.staticRefV Y.unassigned L.unassignedStatic L.statics hcS0 hiss (a' (.isRef (.static Bundle.tN "UNASSIGNED_STACK" Bundle.steD)) (by simp [Bundle.ownAtoms]))
  obtain ⟨sen, hsen⟩ := Cond.staticRefV Y.sentinel L.sentinelStatic L.statics hcS0 hiss (a' (.isRef (.static Bundle.tN "SUPPRESSED_SENTINEL" Bundle.listD)) (by simp [Bundle.ownAtoms]))
  obtain ⟨ci198, i198, fB, hk198, hg198, ha198, hsB, -, hnB, htB, hffB⟩ := Cond.ownField (t := .object "java/lang/Object") Y.found L.cls (by decide +kernel) (a' (.fieldLink Bundle.tN 198 Bundle.tN "backtrace" "Ljava/lang/Object;") (by simp [Bundle.ownAtoms])) (a' (.lays Bundle.tN Bundle.tN "backtrace" "Ljava/lang/Object;") (by simp [Bundle.ownAtoms])) e.platform hpl
  obtain ⟨cellS, hcS', heS, -, hkeep⟩ := X.same.2.2.2.2.2 T.aS cellS0 hcS0
  have hcellS : T0.heap[T.aS]? = some cellS := hcS'
  have hout' : ∀ i, (⟨T.aS, i⟩ : Loc) ∉ locs := fun i hmem => by
    have := hlocs _ hmem cellS0 hcS0
    rw [hiss] at this; cases this
  have hknownS : cellS.vm ≠ .unknown := by
    rw [heS]; intro hu
    rw [show cellS0.vm = .unknown from hu] at hiss
    cases hiss
  have hneS : T.aS ≠ a := Nat.ne_of_lt (Nat.lt_of_lt_of_le (Array.getElem?_eq_some_iff.mp hcS0).1 hnew)
  obtain ⟨iM, hffM⟩ := Y.msg
  obtain ⟨tyC, dC, hdC, hdnC⟩ := Cond.laysAt hfound hk Y.cause (a' (.lays cls Bundle.tN "cause" "Ljava/lang/Throwable;") (by simp [Bundle.ownAtoms]))
  obtain ⟨tyS, dS, hdS, hdnS⟩ := Cond.laysAt hfound hk Y.stack (a' (.lays cls Bundle.tN "stackTrace" Bundle.steD) (by simp [Bundle.ownAtoms]))
  obtain ⟨tyP, dP, hdP, hdnP⟩ := Cond.laysAt hfound hk Y.supp (a' (.lays cls Bundle.tN "suppressedExceptions" Bundle.listD) (by simp [Bundle.ownAtoms]))
  obtain ⟨tyM, dM, hdM, hdnM⟩ := Cond.laysAt hfound hk hffM (a' (.lays cls Bundle.tN "detailMessage" "Ljava/lang/String;") (by simp [Bundle.ownAtoms]))
  obtain ⟨tyB, dB, hdB, hdnB⟩ := Cond.laysAt hfound hk hffB (a' (.lays cls Bundle.tN "backtrace" "Ljava/lang/Object;") (by simp [Bundle.ownAtoms]))
  have bC := Cond.laysApart hdB hdC hdnB hdnC (by rw [hnB, Y.causeName]; decide)
  have bS := Cond.laysApart hdB hdS hdnB hdnS (by rw [hnB, Y.stackName]; decide)
  have bP := Cond.laysApart hdB hdP hdnB hdnP (by rw [hnB, Y.suppName]; decide)
  have hskip : SkipFacts T e.platform s (fun u => u) u0 ((preparedCellV T.toThrowableT (freshCell P1.m.cls kX) a u0 sen).withEntry T0.cur) :=
    ⟨{ ci198 := ci198, i198 := i198, fBack := fB }, ⟨hk198, hg198, ha198, hsB⟩, by
      have := fresh_default (c := P1.m.cls) tyB
      rw [htB] at this
      simpa [preparedCellV, Cell.setSlot, Cell.withEntry, Array.getElem?_setIfInBounds, bC, bS, bP, bC.symm, bS.symm, bP.symm, defaultValue] using this, fun _ _ => rfl⟩
  obtain ⟨tm, methC, cdC, kC, vm₁, hnC, -, -, -, -, -, -, -, hW₁, st1⟩ := Steps.initColdS (tb := p.tables) (e := e) (below := below) (s := s) (U := T0) X.here hexec X.warmed hpl hown (t := Bundle.initS cls) rfl rfl (Bundle.fit_spec hcls).2
    (a' (.methodLink own ic (Bundle.initS cls)) (by simp [Bundle.ownAtoms])) (h (.instanceMethod (Bundle.initS cls)) (by cases names <;> simp [Bundle.ownAtoms, Bundle.chainSAtoms, Bundle.passSAtoms])) (bytes := Bundle.six) (maxL := 2) (h (.code (Bundle.initS cls) Bundle.six 2 none) (by cases names <;> simp [Bundle.ownAtoms, Bundle.chainSAtoms, Bundle.passSAtoms]))
    (f := F0 m pc ls (msg :: .ref a :: .ref a :: rest)) rfl (a := a) (msg := msg) (rest := .ref a :: rest) rfl hd6
  cases Option.some.inj (hnC.symm.trans hP1m)
  have X₁ := X.noted hW₁
  obtain ⟨vm₂, X₂, st2⟩ := X₁.ctorMessageOffV hexec (g := F0 m pc ls (.ref a :: rest)) rfl hsize T L Z LZ M LM (P1 :: Ps)
    (fun P hP => by rcases List.mem_cons.mp hP with rfl | hP; exact L1; exact hL P hP) ⟨hlink1, hlink⟩ (u0 := u0) (sen := sen) (self := a) hmsg (cell := freshCell P1.m.cls kX) (cellS := cellS)
    hcell (fun _ => by simp) (by simp) rfl rfl hsel0 hselF hcellS hneS hknownS (by rw [hkeep _ (hout' _)]; exact hu0) (by rw [hkeep _ (hout' _)]; exact hsen)
    (Takes.of_laid hk hord tyC (by rw [Y.causeType]; rfl)) (Takes.of_laid hk hord tyS (by rw [Y.stackType]; exact fits_refV_array _ u0)) (Takes.of_laid hk hord tyP (by rw [Y.suppType]; exact fits_refV_object _ sen))
    (Takes.of_laid hk hord tyM (by rw [Y.msgType]; exact fits_refV_object _ ⟨msg, hmsg⟩)) Y.objLocals hskip htr [] hd6
    (by simp only [List.length_cons, hlen]; omega) (by simp only [List.length_cons, hlen]; show 2 * 0 + _ + _ ≤ _; omega)
  have X₃ := X₂.forget (fun y hy => by
    simp only [List.mem_cons, List.not_mem_nil, or_false] at hy
    rcases hy with rfl | rfl | rfl | rfl | rfl <;> exact hnew)
  obtain ⟨t, a1, b1⟩ := kk (plainBareV T.toThrowableT (freshCell P1.m.cls kX) a u0 sen msg) rfl rfl _ (by rw [← hT0]; rfl) X₃
  exact ⟨t, st1 _ (fun acts => by rw [doInvoke_state]; exact st2 _ a1), b1⟩
end XC
end
section
/-! a throw that is caught, where the caught class may be linked first -/
section XF
variable {e : Env} {s : State} {f : JFrame} {a : Addr}
theorem xf_go {E : CtlPost} {d : Bool} {acts : List Action} {Q : Handler → Pre} {x : ExceptionTableEntry} {t : List ExceptionTableEntry} {c : ClassId} {cell : Cell} {vm' : Vm}
    (hx : covers x f.pc = true) (h0 : x.catchType ≠ 0) (hg : (Jvm.resolveClass f.method.cls x.catchType).Gives e.toSetting s.vm (.ok c) vm') (hsz : vm'.classes.size ≤ s.vm.classes.size)
    (hcell : s.heap[a]? = some cell) (hobj : ∀ k, cell.vm ≠ .statics k) (hk : ∃ k, vm'.classes[cell.cls]? = some k) (hc : ∃ k, vm'.classes[c]? = some k) :
    wp (findHandler.go f a (x :: t)) Q E e d acts s ↔ if vm'.assignable cell.cls c = true then Q (.found x.handlerPc) d acts (s.setVm vm') else wp (findHandler.go f a t) Q E e d acts (s.setVm vm') := by
  simp only [covers] at hx
  obtain ⟨ha, ht⟩ := hg.op (op := VmOp.resolveClass f.method.cls x.catchType) rfl
  cases hfit : vm'.assignable cell.cls c <;> simp [findHandler.go, VmOp.dirties, VmOp.acts, hx, h0, ha, ht, hsz, hcell, hobj, hk, hc, hfit]
/-- the search ends at a handler; the tables are those behind it -/
def xf_F (e : Env) (s : State) (f : JFrame) (a : Addr) (h : Handler) (vm' : Vm) : Prop := ∀ (Q : Handler → Pre) (E : CtlPost) (d : Bool) (acts : List Action), wp (findHandler f a) Q E e d acts s ↔ Q h d acts (s.setVm vm')
theorem xf_step {r : List Frame} {pc : Nat} {vm' : Vm} (hfind : xf_F e s f a (.found pc) vm') : (stepThrowing e s a (.java f :: r)).Is ((s.setVm vm').setFrames (.java { f with pc := pc, stack := [.ref a] } :: r)) [] := by
  simp only [stepThrowing, searchFrame, vmDo]
  generalize hr : Sem.go _ e false [] s = res
  obtain ⟨as, rfl, ha⟩ := Sem.eq_ok_of hr (a := Handler.found pc) (s' := s.setVm vm') (acts' := []) (by simp [hfind _ _ _ _])
  exact ⟨rfl, ha⟩
theorem xf_caught {tb : Tables} [Ours tb] {target : State} {g : JFrame} {c : Code} {below : List Frame} {vm' : Vm} (h : At s g.method c below) {pc : Nat} (hfind : xf_F e ((s.setTop g).pushFrame (.throwing a)) g a (.found pc) vm')
    (hrest : Steps tb e below ((s.setVm vm').setTop { g with pc := pc, stack := [.ref a] }) target) :
    Steps tb e below ((s.setTop g).pushFrame (.throwing a)) target := by
  obtain ⟨hgo, hw⟩ := h.throwing a
  refine Steps.head hgo hw ?_
  rw [stepThread_throwing (frames_entered h.top _), (xf_step (s := (s.setTop g).pushFrame (.throwing a)) hfind).1]
  obtain ⟨g₀, hg⟩ := Option.isSome_iff_exists.mp h.top
  obtain ⟨r, hr⟩ := State.topJava?_eq_some.mp hg
  have hr' : (s.setVm vm').frames = .java g₀ :: r := hr
  rw [State.setTop_of_frames _ hr'] at hrest
  rw [State.pushFrame, State.setTop_of_frames _ hr, State.setFrames_setFrames, hr]
  rw [List.tail_cons, show ∀ (A : State) (F G : List Frame) (V : Vm), ((A.setFrames F).setVm V).setFrames G = (A.setVm V).setFrames G from fun A F G V => (show ((A.setVm V).setFrames F).setFrames G = _ from State.setFrames_setFrames _ _ _)]
  exact hrest
end XF
end
section
/-! throws of the class: the words that they stand on beside the tables' list -/
def xs_W : List Cond := [.laysStatic "java/lang/Throwable" "UNASSIGNED_STACK" "[Ljava/lang/StackTraceElement;", .laysStatic "java/lang/Throwable" "SUPPRESSED_SENTINEL" "Ljava/util/List;", .isRef (.static "java/lang/Throwable" "UNASSIGNED_STACK" "[Ljava/lang/StackTraceElement;"), .isRef (.static "java/lang/Throwable" "SUPPRESSED_SENTINEL" "Ljava/util/List;"), .declares ⟨"java/lang/RuntimeException", "<init>", "(Ljava/lang/String;)V"⟩, .declares ⟨"java/lang/Exception", "<init>", "(Ljava/lang/String;)V"⟩, .declares ⟨"java/lang/Throwable", "<init>", "(Ljava/lang/String;)V"⟩, .castable "java/lang/IllegalArgumentException" "java/lang/IllegalArgumentException", .castable "java/lang/IllegalStateException" "java/lang/IllegalStateException", .castable "java/lang/IndexOutOfBoundsException" "java/lang/IndexOutOfBoundsException"]
theorem xb_0 : (.laysStatic "java/lang/Throwable" "UNASSIGNED_STACK" "[Ljava/lang/StackTraceElement;" : Cond) ∈ xs_W := List.mem_of_getElem? (i := 0) rfl
theorem xb_1 : (.laysStatic "java/lang/Throwable" "SUPPRESSED_SENTINEL" "Ljava/util/List;" : Cond) ∈ xs_W := List.mem_of_getElem? (i := 1) rfl
theorem xb_2 : (.isRef (.static "java/lang/Throwable" "UNASSIGNED_STACK" "[Ljava/lang/StackTraceElement;") : Cond) ∈ xs_W := List.mem_of_getElem? (i := 2) rfl
theorem xb_3 : (.isRef (.static "java/lang/Throwable" "SUPPRESSED_SENTINEL" "Ljava/util/List;") : Cond) ∈ xs_W := List.mem_of_getElem? (i := 3) rfl
theorem xb_4 : (.declares ⟨"java/lang/RuntimeException", "<init>", "(Ljava/lang/String;)V"⟩ : Cond) ∈ xs_W := List.mem_of_getElem? (i := 4) rfl
theorem xb_5 : (.declares ⟨"java/lang/Exception", "<init>", "(Ljava/lang/String;)V"⟩ : Cond) ∈ xs_W := List.mem_of_getElem? (i := 5) rfl
theorem xb_6 : (.declares ⟨"java/lang/Throwable", "<init>", "(Ljava/lang/String;)V"⟩ : Cond) ∈ xs_W := List.mem_of_getElem? (i := 6) rfl
theorem xb_7 : (.castable "java/lang/IllegalArgumentException" "java/lang/IllegalArgumentException" : Cond) ∈ xs_W := List.mem_of_getElem? (i := 7) rfl
theorem xb_8 : (.castable "java/lang/IllegalStateException" "java/lang/IllegalStateException" : Cond) ∈ xs_W := List.mem_of_getElem? (i := 8) rfl
theorem xb_9 : (.castable "java/lang/IndexOutOfBoundsException" "java/lang/IndexOutOfBoundsException" : Cond) ∈ xs_W := List.mem_of_getElem? (i := 9) rfl
def xs_L : List (Nat × String) := [(56, "n is not 1 .. 128"), (71, "there is no room"), (110, "there is no such root"), (116, "this is no address of the heap"), (118, "this word is in no object")]
def xs_T (U : State) : Prop := (∀ w ∈ xs_W, ∀ A : Array Value, w.before A U = true) ∧ ∀ k ∈ xs_L, ∃ q, vk_R R_G k.1 k.2 q U
/-- the cells of statics are as they were -/
def xs_H (H H1 : Heap) : Prop := ∀ (q : Nat) (cell : Cell), H[q]? = some cell → cell.vm.isStatics = true → H1[q]? = some cell
theorem xs_H.refl (H : Heap) : xs_H H H := fun _ _ h _ => h
theorem xs_H.trans {H H1 H2 : Heap} (h : xs_H H H1) (h' : xs_H H1 H2) : xs_H H H2 := fun q cell a b => h' q cell (h q cell a b) b
theorem xs_static {u U : State} (hW : u.WarmedH U.vm) (hH : xs_H u.heap U.heap) {o n d : String} (A : Array Value) (h : (Cond.laysStatic o n d).before #[] u = true) : (Cond.laysStatic o n d).before A U = true := by
  obtain ⟨c, k, i, f, a, cell, hc, hi, hst, ha, hcell, hs, hcls, hlt, hty⟩ := Cond.laysStatic_spec h
  obtain ⟨k', hi', hek⟩ := State.fieldFound?_setVm hW.alike hi
  exact Cond.laysStatic_of (s := U) (by rw [hW.alike.findClass]; exact hc) hi' hst (by rw [hek]; exact ha) (hH _ _ hcell hs) hs hcls hlt (by rw [hek]; exact hty)
theorem xs_isRef {u U : State} (hW : u.WarmedH U.vm) (hH : xs_H u.heap U.heap) {o n d : String} (A : Array Value) (h : (Cond.laysStatic o n d).before #[] u = true) (hr : (Cond.isRef (.static o n d)).before #[] u = true) : (Cond.isRef (.static o n d)).before A U = true := by
  obtain ⟨c, k, i, f, a, cell, hc, hi, hst, ha, hcell, hs, hcls, hlt, hty⟩ := Cond.laysStatic_spec h
  obtain ⟨k', hi', hek⟩ := State.fieldFound?_setVm hW.alike hi
  obtain ⟨⟨v, hv⟩, hu⟩ := Cond.staticRefV hi hst ha hcell hs hr
  have ha' : k'.statics = some a := by rw [hek]; exact ha
  have hi' : U.fieldFound? o n d = some (c, k', i, f) := hi'
  have hcell' := hH _ _ hcell hs
  have he : (Term.static o n d).eval A U none [] U = some v := by
    simp [Term.eval, State.fieldNamed?, hi', hst, ha', hcell', hs, hu]
  simp only [Cond.before, Cond.holds, Cond.value]
  rw [he]
  cases v <;> simp [Value.isRef] at hv <;> rfl
theorem xs_moved {u U : State} (hW : u.WarmedH U.vm) (hH : xs_H u.heap U.heap) (h : xs_T u) : xs_T U := by
  refine ⟨fun w hw A => ?_, fun k hk => ?_⟩
  · have g := fun (i : Nat) (w : Cond) (hi : xs_W[i]? = some w) => h.1 w (List.mem_of_getElem? hi) #[]
    have dd : ∀ x : MethodName, va_Nw (.declares x) u → (Cond.declares x).before A U = true := fun x hx => va_tabs rfl (rfl : U.vm = U.vm) (va_Nw.warmD hW hx)
    have cc : ∀ C T : String, va_Nw (.castable C T) u → (Cond.castable C T).before A U = true := fun C T hx => va_tabs rfl (rfl : U.vm = U.vm) (va_Nw.warmC hW hx)
    simp only [xs_W, List.mem_cons, List.not_mem_nil, or_false] at hw
    rcases hw with rfl | rfl | rfl | rfl | rfl | rfl | rfl | rfl | rfl | rfl
    · exact xs_static hW hH A (g 0 _ rfl)
    · exact xs_static hW hH A (g 1 _ rfl)
    · exact xs_isRef hW hH A (g 0 _ rfl) (g 2 _ rfl)
    · exact xs_isRef hW hH A (g 1 _ rfl) (g 3 _ rfl)
    · exact dd _ (g 4 _ rfl)
    · exact dd _ (g 5 _ rfl)
    · exact dd _ (g 6 _ rfl)
    · exact cc _ _ (g 7 _ rfl)
    · exact cc _ _ (g 8 _ rfl)
    · exact cc _ _ (g 9 _ rfl)
  · obtain ⟨q, hq⟩ := h.2 k hk
    exact ⟨q, vk_R.warm hW hq⟩
def X_IAE : String := "java/lang/IllegalArgumentException"
set_option maxRecDepth 20000 in
theorem xs_IAE {args : Array Value} {s : State} (h : ∀ w ∈ wa_all, w.before args s = true) (hT : xs_T s) : ∀ a ∈ Bundle.ownAtoms R_G 58 X_IAE ["java/lang/RuntimeException", "java/lang/Exception"], a.before args s = true :=
  List.forall_mem_cons.mpr ⟨h _ wm_37, List.forall_mem_cons.mpr ⟨h _ wm_152, List.forall_mem_cons.mpr ⟨h _ wm_159, List.forall_mem_cons.mpr ⟨h _ wm_163, List.forall_mem_cons.mpr ⟨h _ wm_165, List.forall_mem_cons.mpr ⟨h _ wm_167, List.forall_mem_cons.mpr ⟨h _ wm_153, List.forall_mem_cons.mpr ⟨h _ wm_154, List.forall_mem_cons.mpr ⟨h _ wm_50, List.forall_mem_cons.mpr ⟨h _ wm_51, List.forall_mem_cons.mpr ⟨h _ wm_155, List.forall_mem_cons.mpr ⟨h _ wm_158, List.forall_mem_cons.mpr ⟨h _ wm_164, List.forall_mem_cons.mpr ⟨h _ wm_188, List.forall_mem_cons.mpr ⟨h _ wm_142, List.forall_mem_cons.mpr ⟨h _ wm_189, List.forall_mem_cons.mpr ⟨h _ wm_144, List.forall_mem_cons.mpr ⟨h _ wm_190, List.forall_mem_cons.mpr ⟨h _ wm_146, List.forall_mem_cons.mpr ⟨h _ wm_156, List.forall_mem_cons.mpr ⟨hT.1 _ xb_0 _, List.forall_mem_cons.mpr ⟨h _ wm_157, List.forall_mem_cons.mpr ⟨hT.1 _ xb_1 _, List.forall_mem_cons.mpr ⟨h _ wm_148, List.forall_mem_cons.mpr ⟨h _ wm_184, List.forall_mem_cons.mpr ⟨h _ wm_185, List.forall_mem_cons.mpr ⟨h _ wm_187, List.forall_mem_cons.mpr ⟨h _ wm_148, List.forall_mem_cons.mpr ⟨h _ wm_175, List.forall_mem_cons.mpr ⟨h _ wm_176, List.forall_mem_cons.mpr ⟨h _ wm_177, List.forall_mem_cons.mpr ⟨h _ wm_178, List.forall_mem_cons.mpr ⟨hT.1 _ xb_4 _, List.forall_mem_cons.mpr ⟨h _ wm_178, List.forall_mem_cons.mpr ⟨h _ wm_179, List.forall_mem_cons.mpr ⟨h _ wm_180, List.forall_mem_cons.mpr ⟨h _ wm_181, List.forall_mem_cons.mpr ⟨hT.1 _ xb_5 _, List.forall_mem_cons.mpr ⟨h _ wm_181, List.forall_mem_cons.mpr ⟨h _ wm_182, List.forall_mem_cons.mpr ⟨h _ wm_183, List.forall_mem_cons.mpr ⟨h _ wm_184, List.forall_mem_cons.mpr ⟨hT.1 _ xb_6 _, List.forall_mem_cons.mpr ⟨h _ wm_252, List.forall_mem_cons.mpr ⟨h _ wm_138, List.forall_mem_cons.mpr ⟨hT.1 _ xb_7 _, List.forall_mem_cons.mpr ⟨h _ wm_139, List.forall_mem_cons.mpr ⟨h _ wm_140, List.forall_mem_cons.mpr ⟨h _ wm_141, List.forall_mem_cons.mpr ⟨h _ wm_143, List.forall_mem_cons.mpr ⟨h _ wm_145, List.forall_mem_cons.mpr ⟨h _ wm_147, List.forall_mem_cons.mpr ⟨hT.1 _ xb_2 _, List.forall_mem_cons.mpr ⟨hT.1 _ xb_3 _, List.forall_mem_cons.mpr ⟨h _ wm_151, List.forall_mem_cons.mpr ⟨h _ wm_150, List.forall_mem_cons.mpr ⟨h _ wm_149, fun _ q => absurd q List.not_mem_nil⟩⟩⟩⟩⟩⟩⟩⟩⟩⟩⟩⟩⟩⟩⟩⟩⟩⟩⟩⟩⟩⟩⟩⟩⟩⟩⟩⟩⟩⟩⟩⟩⟩⟩⟩⟩⟩⟩⟩⟩⟩⟩⟩⟩⟩⟩⟩⟩⟩⟩⟩⟩⟩⟩⟩⟩⟩
def X_ISE : String := "java/lang/IllegalStateException"
set_option maxRecDepth 20000 in
theorem xs_ISE {args : Array Value} {s : State} (h : ∀ w ∈ wa_all, w.before args s = true) (hT : xs_T s) : ∀ a ∈ Bundle.ownAtoms R_G 73 X_ISE ["java/lang/RuntimeException", "java/lang/Exception"], a.before args s = true :=
  List.forall_mem_cons.mpr ⟨h _ wm_37, List.forall_mem_cons.mpr ⟨h _ wm_152, List.forall_mem_cons.mpr ⟨h _ wm_159, List.forall_mem_cons.mpr ⟨h _ wm_163, List.forall_mem_cons.mpr ⟨h _ wm_165, List.forall_mem_cons.mpr ⟨h _ wm_167, List.forall_mem_cons.mpr ⟨h _ wm_153, List.forall_mem_cons.mpr ⟨h _ wm_154, List.forall_mem_cons.mpr ⟨h _ wm_50, List.forall_mem_cons.mpr ⟨h _ wm_51, List.forall_mem_cons.mpr ⟨h _ wm_155, List.forall_mem_cons.mpr ⟨h _ wm_158, List.forall_mem_cons.mpr ⟨h _ wm_164, List.forall_mem_cons.mpr ⟨h _ wm_188, List.forall_mem_cons.mpr ⟨h _ wm_142, List.forall_mem_cons.mpr ⟨h _ wm_189, List.forall_mem_cons.mpr ⟨h _ wm_144, List.forall_mem_cons.mpr ⟨h _ wm_190, List.forall_mem_cons.mpr ⟨h _ wm_146, List.forall_mem_cons.mpr ⟨h _ wm_156, List.forall_mem_cons.mpr ⟨hT.1 _ xb_0 _, List.forall_mem_cons.mpr ⟨h _ wm_157, List.forall_mem_cons.mpr ⟨hT.1 _ xb_1 _, List.forall_mem_cons.mpr ⟨h _ wm_148, List.forall_mem_cons.mpr ⟨h _ wm_184, List.forall_mem_cons.mpr ⟨h _ wm_185, List.forall_mem_cons.mpr ⟨h _ wm_187, List.forall_mem_cons.mpr ⟨h _ wm_148, List.forall_mem_cons.mpr ⟨h _ wm_277, List.forall_mem_cons.mpr ⟨h _ wm_278, List.forall_mem_cons.mpr ⟨h _ wm_279, List.forall_mem_cons.mpr ⟨h _ wm_178, List.forall_mem_cons.mpr ⟨hT.1 _ xb_4 _, List.forall_mem_cons.mpr ⟨h _ wm_178, List.forall_mem_cons.mpr ⟨h _ wm_179, List.forall_mem_cons.mpr ⟨h _ wm_180, List.forall_mem_cons.mpr ⟨h _ wm_181, List.forall_mem_cons.mpr ⟨hT.1 _ xb_5 _, List.forall_mem_cons.mpr ⟨h _ wm_181, List.forall_mem_cons.mpr ⟨h _ wm_182, List.forall_mem_cons.mpr ⟨h _ wm_183, List.forall_mem_cons.mpr ⟨h _ wm_184, List.forall_mem_cons.mpr ⟨hT.1 _ xb_6 _, List.forall_mem_cons.mpr ⟨h _ wm_276, List.forall_mem_cons.mpr ⟨h _ wm_269, List.forall_mem_cons.mpr ⟨hT.1 _ xb_8 _, List.forall_mem_cons.mpr ⟨h _ wm_270, List.forall_mem_cons.mpr ⟨h _ wm_161, List.forall_mem_cons.mpr ⟨h _ wm_271, List.forall_mem_cons.mpr ⟨h _ wm_272, List.forall_mem_cons.mpr ⟨h _ wm_273, List.forall_mem_cons.mpr ⟨h _ wm_274, List.forall_mem_cons.mpr ⟨hT.1 _ xb_2 _, List.forall_mem_cons.mpr ⟨hT.1 _ xb_3 _, List.forall_mem_cons.mpr ⟨h _ wm_151, List.forall_mem_cons.mpr ⟨h _ wm_150, List.forall_mem_cons.mpr ⟨h _ wm_275, fun _ q => absurd q List.not_mem_nil⟩⟩⟩⟩⟩⟩⟩⟩⟩⟩⟩⟩⟩⟩⟩⟩⟩⟩⟩⟩⟩⟩⟩⟩⟩⟩⟩⟩⟩⟩⟩⟩⟩⟩⟩⟩⟩⟩⟩⟩⟩⟩⟩⟩⟩⟩⟩⟩⟩⟩⟩⟩⟩⟩⟩⟩⟩
def X_IOOBE : String := "java/lang/IndexOutOfBoundsException"
set_option maxRecDepth 20000 in
theorem xs_IOOBE {args : Array Value} {s : State} (h : ∀ w ∈ wa_all, w.before args s = true) (hT : xs_T s) : ∀ a ∈ Bundle.ownAtoms R_G 112 X_IOOBE ["java/lang/RuntimeException", "java/lang/Exception"], a.before args s = true :=
  List.forall_mem_cons.mpr ⟨h _ wm_37, List.forall_mem_cons.mpr ⟨h _ wm_152, List.forall_mem_cons.mpr ⟨h _ wm_159, List.forall_mem_cons.mpr ⟨h _ wm_163, List.forall_mem_cons.mpr ⟨h _ wm_165, List.forall_mem_cons.mpr ⟨h _ wm_167, List.forall_mem_cons.mpr ⟨h _ wm_153, List.forall_mem_cons.mpr ⟨h _ wm_154, List.forall_mem_cons.mpr ⟨h _ wm_50, List.forall_mem_cons.mpr ⟨h _ wm_51, List.forall_mem_cons.mpr ⟨h _ wm_155, List.forall_mem_cons.mpr ⟨h _ wm_158, List.forall_mem_cons.mpr ⟨h _ wm_164, List.forall_mem_cons.mpr ⟨h _ wm_188, List.forall_mem_cons.mpr ⟨h _ wm_142, List.forall_mem_cons.mpr ⟨h _ wm_189, List.forall_mem_cons.mpr ⟨h _ wm_144, List.forall_mem_cons.mpr ⟨h _ wm_190, List.forall_mem_cons.mpr ⟨h _ wm_146, List.forall_mem_cons.mpr ⟨h _ wm_156, List.forall_mem_cons.mpr ⟨hT.1 _ xb_0 _, List.forall_mem_cons.mpr ⟨h _ wm_157, List.forall_mem_cons.mpr ⟨hT.1 _ xb_1 _, List.forall_mem_cons.mpr ⟨h _ wm_148, List.forall_mem_cons.mpr ⟨h _ wm_184, List.forall_mem_cons.mpr ⟨h _ wm_185, List.forall_mem_cons.mpr ⟨h _ wm_187, List.forall_mem_cons.mpr ⟨h _ wm_148, List.forall_mem_cons.mpr ⟨h _ wm_199, List.forall_mem_cons.mpr ⟨h _ wm_200, List.forall_mem_cons.mpr ⟨h _ wm_201, List.forall_mem_cons.mpr ⟨h _ wm_178, List.forall_mem_cons.mpr ⟨hT.1 _ xb_4 _, List.forall_mem_cons.mpr ⟨h _ wm_178, List.forall_mem_cons.mpr ⟨h _ wm_179, List.forall_mem_cons.mpr ⟨h _ wm_180, List.forall_mem_cons.mpr ⟨h _ wm_181, List.forall_mem_cons.mpr ⟨hT.1 _ xb_5 _, List.forall_mem_cons.mpr ⟨h _ wm_181, List.forall_mem_cons.mpr ⟨h _ wm_182, List.forall_mem_cons.mpr ⟨h _ wm_183, List.forall_mem_cons.mpr ⟨h _ wm_184, List.forall_mem_cons.mpr ⟨hT.1 _ xb_6 _, List.forall_mem_cons.mpr ⟨h _ wm_313, List.forall_mem_cons.mpr ⟨h _ wm_306, List.forall_mem_cons.mpr ⟨hT.1 _ xb_9 _, List.forall_mem_cons.mpr ⟨h _ wm_307, List.forall_mem_cons.mpr ⟨h _ wm_162, List.forall_mem_cons.mpr ⟨h _ wm_308, List.forall_mem_cons.mpr ⟨h _ wm_309, List.forall_mem_cons.mpr ⟨h _ wm_310, List.forall_mem_cons.mpr ⟨h _ wm_311, List.forall_mem_cons.mpr ⟨hT.1 _ xb_2 _, List.forall_mem_cons.mpr ⟨hT.1 _ xb_3 _, List.forall_mem_cons.mpr ⟨h _ wm_151, List.forall_mem_cons.mpr ⟨h _ wm_150, List.forall_mem_cons.mpr ⟨h _ wm_312, fun _ q => absurd q List.not_mem_nil⟩⟩⟩⟩⟩⟩⟩⟩⟩⟩⟩⟩⟩⟩⟩⟩⟩⟩⟩⟩⟩⟩⟩⟩⟩⟩⟩⟩⟩⟩⟩⟩⟩⟩⟩⟩⟩⟩⟩⟩⟩⟩⟩⟩⟩⟩⟩⟩⟩⟩⟩⟩⟩⟩⟩⟩⟩
def rm_x (d : Nat) : Room := { frames := 6 + d, cells := 1, slots := 6, locals := 100 + 40 * d }
/-- behind a throw: the thrown object, the world -/
def gx_T (D : va_G) (cl : List vw_C) (A : Nat → Prop) (w : va_W) (X : String) (Z : va_W → Prop) : Array Value → State → Outcome → State → Prop := fun _ st o t =>
  ∃ (x : Addr) (cell : Cell) (w' : va_W), o = .threw x ∧ t.heap[x]? = some cell ∧ cell.vm = .none ∧ t.vm.findClass X = some cell.cls ∧ Z w' ∧ w'.map (fun q => q.1) = w.map (fun q => q.1) ∧ va_P D cl w' t.heap ∧ va_F A st t
section XS
variable {p : Program} {l : Launch} {e : Env} {R : Room} {s : State} {m : MethodId} {args : Array Value} {below : List Frame} {meth : Method} {c : Code} {H : Heap} {locs : List Loc} {cells slots : Nat}
/-- new, dup, ldc, the constructor, athrow -/
theorem xs_go {cc : ByteArray} {Qc : Array Value → State → Outcome → State → Prop} {free : Addr → Prop} {cls tx : String} {ik il ic pc : Nat} {ls : Array Slot} {names : List String} (hexec : p.tables.exec = Jvm.exec) (hb : c.code = cc) (htr : ∀ e : Env, l.admits e → e.platform.stackTraces = false) (hown : s.vm.findClass R_G = some m.cls) (hno : c.exceptionTable.isEmpty = true) (hlocks : meth.locks = false)
    (hcls : Bundle.fit cls = true) (hnames : ∀ n ∈ names, Bundle.fit n = true) (h : ∀ a ∈ Bundle.ownAtoms R_G ic cls names, a.before args s = true) (hlink : (Cond.classLink R_G ik cls).before args s = true) (hinit : (Cond.initialized cls).before args s = true) (hL : ∃ q, vk_R R_G il tx q s)
    (d0 : decode cc pc = .ok (.new ik, 3)) (d1 : decode cc (pc + 3) = .ok (.dup, 1)) (d2 : decode cc (pc + 3 + 1) = .ok (.ldc il, 2)) (d3 : decode cc (pc + 3 + 1 + 2) = .ok (.invokespecial ic, 3)) (d4 : decode cc (pc + 3 + 1 + 2 + 3) = .ok (.athrow, 1)) (hsize : ls.size = c.maxLocals)
    (hlocs : ∀ x ∈ locs, ∀ cell, s.heap[x.base]? = some cell → cell.vm.isStatics = false) (hH : s.heap.size ≤ H.size) (hR : names.length + 3 < R.frames ∧ 1 + (13 * (names.length + 1) + 42) ≤ R.locals) (hroom : cells + 1 ≤ R.cells ∧ slots + 6 ≤ R.slots)
    (hf : ∀ q ∈ locs, free q.base)
    (hq : ∀ (t : State) (cell : Cell), t.heap.size = H.size + 1 → (∀ q : Nat, q < H.size → t.heap[q]? = H[q]?) → t.heap[H.size]? = some cell → cell.vm = .none → t.vm.findClass cls = some cell.cls → s.WarmedH t.vm → Qc args s (.threw H.size) t) :
    W p l e R s m args below meth c H locs cells slots (xt_Q below Qc args s (cells + 1) (slots + 6) free) (F0 m pc ls []) := by
  obtain ⟨q, hL⟩ := hL
  refine W.newc hexec hb hown hlink (h (.instantiable cls 6) (by simp [Bundle.ownAtoms])) hinit (g := F0 m pc ls []) rfl d0 hroom.1 hroom.2 fun cX kX f1 f2 f3 f4 => ?_
  refine lv_dup hexec hb d1 rfl ?_
  refine va_ldcS hexec hb hown hL d2 ?_
  refine xt_ctor hexec hb htr hown hcls hnames h hlocs (a := H.size) f1 f2 (by rw [Array.getElem?_push_size]) hH rfl hsize d3 hR.1 hR.2 fun cell' g1 g2 => ?_
  refine xt_athrow hexec hb hno (fun t ht hW => ?_) hf d4 hlocks
  refine hq t cell' (by rw [ht]; simp) (fun q hq => ?_) ?_ g2 (by rw [hW.alike.findClass, g1]; exact f1) hW
  · rw [ht, Array.getElem?_setIfInBounds_ne (Nat.ne_of_gt hq), Array.getElem?_push, if_neg (Nat.ne_of_lt hq)]
  · rw [ht, Array.getElem?_setIfInBounds_self]
    simp
end XS
end
section
/-! a callee throws, and the caller catches -/
section XG
variable {p : Program} {l : Launch} {e : Env} {R : Room} {s : State} {m : MethodId} {args : Array Value} {below : List Frame} {meth : Method} {c : Code} {H : Heap} {locs : List Loc} {cells slots : Nat} {Q : State → Prop}
def xg_tb (c : Code) (hh : List (Nat × Nat × Nat × Nat)) : Prop := c.exceptionTable.toList.map (fun h => (h.startPc, h.endPc, h.handlerPc, h.catchType)) = hh
/-- what is thrown -/
def xg_X (Qa : State → Outcome → State → Prop) (X : String) : Prop := ∀ (x : Addr) (st₀ t : State), Qa st₀ (.threw x) t → ∃ cell, t.heap[x]? = some cell ∧ cell.vm = .none ∧ t.vm.findClass X = some cell.cls
theorem xg_note {T : State} (X : Stand p l e R s m args below meth c T locs cells slots) {own name : String} {index : Nat} (hown : s.vm.findClass own = some m.cls) (hlink : (Cond.classLink own index name).before args s = true) :
    ∃ (cT : ClassId) (vm' : Vm), s.vm.findClass name = some cT ∧ (Jvm.resolveClass m.cls index).Gives e.toSetting T.vm (.ok cT) vm' ∧ vm'.classes.size ≤ T.vm.classes.size ∧ s.WarmedH vm' ∧ (∃ k, vm'.classes[cT]? = some k) ∧ Stand p l e R s m args below meth c (T.setVm vm') locs cells slots := by
  have hpl : e.platform.magicAccessors = ({} : Platform).magicAccessors := by rw [X.admits.platform]
  obtain ⟨c', hc', hcl⟩ := Cond.classLink_spec hown hlink e.platform hpl
  obtain ⟨dk, _, _, kt, hd, _, _, _, _, hkt, _, hopen⟩ := hcl.here
  have hcl₀ := X.warmed.classLinks hcl
  have hW' : s.WarmedH (T.vm.noted m.cls index (.cls c')) := X.warmed.noted hd hopen (State.rightAt_cls hcl)
  obtain ⟨kt', hkt', -⟩ := hW'.alike.2.2 _ _ hkt
  exact ⟨c', _, hc', resolveClass_links e.toSetting hcl₀, Nat.le_of_eq (Vm.size_noted _ _ _ _), hW', ⟨kt', hkt'⟩, X.noted hW'⟩
theorem xg_catch1 {mc ms pc s0 e0 hp ct : Nat} {ls : Array Slot} {st0 rest : List Value} {Qa : State → Outcome → State → Prop} {free : Addr → Prop} {X own : String} {tl : List (Nat × Nat × Nat × Nat)} (hr : xt_Run p l e R s m args below meth c H locs cells slots mc ms (F0 m pc ls st0) rest Qa free) (hX : xg_X Qa X)
    (hown : s.vm.findClass own = some m.cls) (hlink : (Cond.classLink own ct X).before args s = true) (htb : xg_tb c ((s0, e0, hp, ct) :: tl)) (hcov : s0 ≤ pc ∧ pc < e0) (hct : ct ≠ 0)
    (kk : ∀ (x : Addr) (st₀ t : State) (L : List Loc), st₀.heap = H → Qa st₀ (.threw x) t → s.vm.Alike t.vm → (∀ q ∈ L, free q.base) → W p l e R s m args below meth c t.heap (locs ++ L) (cells + mc) (slots + ms) Q (F0 m hp ls [.ref x])) :
    W p l e R s m args below meth c H locs cells slots Q (F0 m pc ls st0) := by
  intro T hT X0
  obtain ⟨x, st₀, t, T', L, h0, X', hL, e1, e2, hqa, st⟩ := hr T hT X0
  obtain ⟨cell, g1, g2, g3⟩ := hX x st₀ t hqa
  obtain ⟨cT, vm', f1, f2, f3, f4, f5, X2⟩ := xg_note X' hown hlink
  have hA : s.vm.Alike t.vm := by rw [← e2]; exact X'.warmed.alike
  rw [hA.findClass] at g3
  cases f1.symm.trans g3
  cases htl : c.exceptionTable.toList with
  | nil =>
    unfold xg_tb at htb
    rw [htl] at htb
    cases htb
  | cons y ys =>
    unfold xg_tb at htb
    rw [htl] at htb
    simp only [List.map_cons, List.cons.injEq, Prod.mk.injEq] at htb
    obtain ⟨⟨y1, y2, y3, y4⟩, -⟩ := htb
    have hfind : xf_F e ((T'.setTop (F0 m pc ls rest)).pushFrame (.throwing x)) (F0 m pc ls rest) x (.found hp) vm' := by
      intro Q' E' d acts
      rw [W.findHandler_eq (meth := meth) (code := c) X'.method' X'.code, htl, xf_go (s := (T'.setTop (F0 m pc ls rest)).pushFrame (.throwing x)) (f := F0 m pc ls rest) (x := y) (c := cell.cls) (cell := cell) (vm' := vm') (by
        unfold covers
        rw [y1, y2]
        simp only [Bool.and_eq_true, decide_eq_true_eq]
        exact hcov) (by rw [y4]; exact hct) (by rw [y4]; exact f2) f3 (by
          show T'.heap[x]? = some cell
          rw [e1]
          exact g1) (fun k h => by rw [g2] at h; cases h) f5 f5, if_pos (va_asg _ _), y3]
    obtain ⟨t2, a1, b1⟩ := kk x st₀ t L h0 hqa hA hL (T'.setVm vm') e1 X2
    exact ⟨t2, st.trans (xf_caught (g := F0 m pc ls rest) X'.here hfind a1), b1⟩
theorem xg_catch2 {mc ms pc s0 e0 h1 k1 hp ct : Nat} {ls : Array Slot} {st0 rest : List Value} {Qa : State → Outcome → State → Prop} {free : Addr → Prop} {X Y own : String} {tl : List (Nat × Nat × Nat × Nat)} (hr : xt_Run p l e R s m args below meth c H locs cells slots mc ms (F0 m pc ls st0) rest Qa free) (hX : xg_X Qa X) (hN : va_Nc X Y s)
    (hown : s.vm.findClass own = some m.cls) (hlink1 : (Cond.classLink own k1 Y).before args s = true) (hlink : (Cond.classLink own ct X).before args s = true) (htb : xg_tb c ((s0, e0, h1, k1) :: (s0, e0, hp, ct) :: tl)) (hcov : s0 ≤ pc ∧ pc < e0) (hk1 : k1 ≠ 0) (hct : ct ≠ 0)
    (kk : ∀ (x : Addr) (st₀ t : State) (L : List Loc), st₀.heap = H → Qa st₀ (.threw x) t → s.vm.Alike t.vm → (∀ q ∈ L, free q.base) → W p l e R s m args below meth c t.heap (locs ++ L) (cells + mc) (slots + ms) Q (F0 m hp ls [.ref x])) :
    W p l e R s m args below meth c H locs cells slots Q (F0 m pc ls st0) := by
  intro T hT X0
  obtain ⟨x, st₀, t, T', L, h0, X', hL, e1, e2, hqa, st⟩ := hr T hT X0
  obtain ⟨cell, g1, g2, g3⟩ := hX x st₀ t hqa
  have hA : s.vm.Alike t.vm := by rw [← e2]; exact X'.warmed.alike
  rw [hA.findClass] at g3
  obtain ⟨cN, tN, n1, n2, n3⟩ := hN
  cases n1.symm.trans g3
  obtain ⟨cY, vm1, d1, d2, d3, d4, d5, X1⟩ := xg_note X' hown hlink1
  cases n2.symm.trans d1
  obtain ⟨cT, vm', f1, f2, f3, f4, f5, X2⟩ := xg_note X1 hown hlink
  cases f1.symm.trans g3
  obtain ⟨ks, hks, -⟩ := Vm.findClass_spec g3
  obtain ⟨ks1, hks1, -⟩ := d4.alike.2.2 _ _ hks
  cases htl : c.exceptionTable.toList with
  | nil =>
    unfold xg_tb at htb
    rw [htl] at htb
    cases htb
  | cons y ys =>
    unfold xg_tb at htb
    rw [htl] at htb
    cases ys with
    | nil => cases htb
    | cons z zs =>
      simp only [List.map_cons, List.cons.injEq, Prod.mk.injEq] at htb
      obtain ⟨⟨y1, y2, y3, y4⟩, ⟨z1, z2, z3, z4⟩, -⟩ := htb
      have hc1 : T'.heap[x]? = some cell := by
        rw [e1]
        exact g1
      have hfind : xf_F e ((T'.setTop (F0 m pc ls rest)).pushFrame (.throwing x)) (F0 m pc ls rest) x (.found hp) vm' := by
        intro Q' E' d acts
        rw [W.findHandler_eq (meth := meth) (code := c) X'.method' X'.code, htl, xf_go (s := (T'.setTop (F0 m pc ls rest)).pushFrame (.throwing x)) (f := F0 m pc ls rest) (x := y) (c := tN) (cell := cell) (vm' := vm1) (by
          unfold covers
          rw [y1, y2]
          simp only [Bool.and_eq_true, decide_eq_true_eq]
          exact hcov) (by rw [y4]; exact hk1) (by rw [y4]; exact d2) d3 hc1 (fun k h => by rw [g2] at h; cases h) ⟨ks1, hks1⟩ d5, if_neg (by rw [d4.alike.assignable, n3]; decide),
          xf_go (s := ((T'.setTop (F0 m pc ls rest)).pushFrame (.throwing x)).setVm vm1) (f := F0 m pc ls rest) (x := z) (c := cell.cls) (cell := cell) (vm' := vm') (by
          unfold covers
          rw [z1, z2]
          simp only [Bool.and_eq_true, decide_eq_true_eq]
          exact hcov) (by rw [z4]; exact hct) (by rw [z4]; exact f2) f3 hc1 (fun k h => by rw [g2] at h; cases h) f5 f5, if_pos (va_asg _ _), z3]
        rfl
      obtain ⟨t2, a1, b1⟩ := kk x st₀ t L h0 hqa hA hL ((T'.setVm vm1).setVm vm') e1 X2
      exact ⟨t2, st.trans (xf_caught (g := F0 m pc ls rest) X'.here hfind a1), b1⟩
end XG
end
