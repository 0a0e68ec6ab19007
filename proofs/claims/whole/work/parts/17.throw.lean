/-! throws of the class: the words that they stand on beside the tables' list -/
def xs_W : List Cond := [.laysStatic "java/lang/Throwable" "UNASSIGNED_STACK" "[Ljava/lang/StackTraceElement;", .laysStatic "java/lang/Throwable" "SUPPRESSED_SENTINEL" "Ljava/util/List;", .isRef (.static "java/lang/Throwable" "UNASSIGNED_STACK" "[Ljava/lang/StackTraceElement;"), .isRef (.static "java/lang/Throwable" "SUPPRESSED_SENTINEL" "Ljava/util/List;"), .declares ⟨"java/lang/RuntimeException", "<init>", "(Ljava/lang/String;)V"⟩, .declares ⟨"java/lang/Exception", "<init>", "(Ljava/lang/String;)V"⟩, .declares ⟨"java/lang/Throwable", "<init>", "(Ljava/lang/String;)V"⟩, .castable "java/lang/IllegalArgumentException" "java/lang/IllegalArgumentException", .castable "java/lang/IllegalStateException" "java/lang/IllegalStateException", .castable "java/lang/IndexOutOfBoundsException" "java/lang/IndexOutOfBoundsException"]
theorem xb_0 : (.laysStatic "java/lang/Throwable" "UNASSIGNED_STACK" "[Ljava/lang/StackTraceElement;" : Cond) ∈ xs_W := List.mem_of_getElem? (i := 0) rfl
theorem xb_1 : (.laysStatic "java/lang/Throwable" "SUPPRESSED_SENTINEL" "Ljava/util/List;" : Cond) ∈ xs_W := List.mem_of_getElem? (i := 1) rfl
theorem xb_2 : (.isRef (.static "java/lang/Throwable" "UNASSIGNED_STACK" "[Ljava/lang/StackTraceElement;") : Cond) ∈ xs_W := List.mem_of_getElem? (i := 2) rfl
theorem xb_3 : (.isRef (.static "java/lang/Throwable" "SUPPRESSED_SENTINEL" "Ljava/util/List;") : Cond) ∈ xs_W := List.mem_of_getElem? (i := 3) rfl
theorem xb_4 : (.declares ⟨"java/lang/RuntimeException", "<init>", "(Ljava/lang/String;)V"⟩ : Cond) ∈ xs_W := List.mem_of_getElem? (i := 4) rfl
theorem xb_5 : (.declares ⟨"java/lang/Exception", "<init>", "(Ljava/lang/String;)V"⟩ : Cond) ∈ xs_W := List.mem_of_getElem? (i := 5) rfl
theorem xb_6 : (.declares ⟨"java/lang/Throwable", "<init>", "(Ljava/lang/String;)V"⟩ : Cond) ∈ xs_W := List.mem_of_getElem? (i := 6) rfl
theorem xb_7 : (.castable "java/lang/IllegalArgumentException" "java/lang/IllegalArgumentException" : Cond) ∈ xs_W := List.mem_of_getElem? (i := 7) rfl
theorem xb_8 : (.castable "java/lang/IllegalStateException" "java/lang/IllegalStateException" : Cond) ∈ xs_W := List.mem_of_getElem? (i := 8) rfl
theorem xb_9 : (.castable "java/lang/IndexOutOfBoundsException" "java/lang/IndexOutOfBoundsException" : Cond) ∈ xs_W := List.mem_of_getElem? (i := 9) rfl
def xs_L : List (Nat × String) := [(56, "n is not 1 .. 128"), (71, "there is no room"), (110, "there is no such root"), (116, "this is no address of the heap"), (118, "this word is in no object")]
def xs_T (U : State) : Prop := (∀ w ∈ xs_W, ∀ A : Array Value, w.before A U = true) ∧ ∀ k ∈ xs_L, ∃ q, vk_R R_G k.1 k.2 q U
/-- the cells of statics are as they were -/
def xs_H (H H1 : Heap) : Prop := ∀ (q : Nat) (cell : Cell), H[q]? = some cell → cell.vm.isStatics = true → H1[q]? = some cell
theorem xs_H.refl (H : Heap) : xs_H H H := fun _ _ h _ => h
theorem xs_H.trans {H H1 H2 : Heap} (h : xs_H H H1) (h' : xs_H H1 H2) : xs_H H H2 := fun q cell a b => h' q cell (h q cell a b) b
theorem xs_static {u U : State} (hW : u.WarmedH U.vm) (hH : xs_H u.heap U.heap) {o n d : String} (A : Array Value) (h : (Cond.laysStatic o n d).before #[] u = true) : (Cond.laysStatic o n d).before A U = true := by
  obtain ⟨c, k, i, f, a, cell, hc, hi, hst, ha, hcell, hs, hcls, hlt, hty⟩ := Cond.laysStatic_spec h
  obtain ⟨k', hi', hek⟩ := State.fieldFound?_setVm hW.alike hi
  exact Cond.laysStatic_of (s := U) (by rw [hW.alike.findClass]; exact hc) hi' hst (by rw [hek]; exact ha) (hH _ _ hcell hs) hs hcls hlt (by rw [hek]; exact hty)
theorem xs_isRef {u U : State} (hW : u.WarmedH U.vm) (hH : xs_H u.heap U.heap) {o n d : String} (A : Array Value) (h : (Cond.laysStatic o n d).before #[] u = true) (hr : (Cond.isRef (.static o n d)).before #[] u = true) : (Cond.isRef (.static o n d)).before A U = true := by
  obtain ⟨c, k, i, f, a, cell, hc, hi, hst, ha, hcell, hs, hcls, hlt, hty⟩ := Cond.laysStatic_spec h
  obtain ⟨k', hi', hek⟩ := State.fieldFound?_setVm hW.alike hi
  obtain ⟨⟨v, hv⟩, hu⟩ := Cond.staticRefV hi hst ha hcell hs hr
  have ha' : k'.statics = some a := by rw [hek]; exact ha
  have hi' : U.fieldFound? o n d = some (c, k', i, f) := hi'
  have hcell' := hH _ _ hcell hs
  have he : (Term.static o n d).eval A U none [] U = some v := by
    simp [Term.eval, State.fieldNamed?, hi', hst, ha', hcell', hs, hu]
  simp only [Cond.before, Cond.holds, Cond.value]
  rw [he]
  cases v <;> simp [Value.isRef] at hv <;> rfl
theorem xs_moved {u U : State} (hW : u.WarmedH U.vm) (hH : xs_H u.heap U.heap) (h : xs_T u) : xs_T U := by
  refine ⟨fun w hw A => ?_, fun k hk => ?_⟩
  · have g := fun (i : Nat) (w : Cond) (hi : xs_W[i]? = some w) => h.1 w (List.mem_of_getElem? hi) #[]
    have dd : ∀ x : MethodName, va_Nw (.declares x) u → (Cond.declares x).before A U = true := fun x hx => va_tabs rfl (rfl : U.vm = U.vm) (va_Nw.warmD hW hx)
    have cc : ∀ C T : String, va_Nw (.castable C T) u → (Cond.castable C T).before A U = true := fun C T hx => va_tabs rfl (rfl : U.vm = U.vm) (va_Nw.warmC hW hx)
    simp only [xs_W, List.mem_cons, List.not_mem_nil, or_false] at hw
    rcases hw with rfl | rfl | rfl | rfl | rfl | rfl | rfl | rfl | rfl | rfl
    · exact xs_static hW hH A (g 0 _ rfl)
    · exact xs_static hW hH A (g 1 _ rfl)
    · exact xs_isRef hW hH A (g 0 _ rfl) (g 2 _ rfl)
    · exact xs_isRef hW hH A (g 1 _ rfl) (g 3 _ rfl)
    · exact dd _ (g 4 _ rfl)
    · exact dd _ (g 5 _ rfl)
    · exact dd _ (g 6 _ rfl)
    · exact cc _ _ (g 7 _ rfl)
    · exact cc _ _ (g 8 _ rfl)
    · exact cc _ _ (g 9 _ rfl)
  · obtain ⟨q, hq⟩ := h.2 k hk
    exact ⟨q, vk_R.warm hW hq⟩
def X_IAE : String := "java/lang/IllegalArgumentException"
set_option maxRecDepth 20000 in
theorem xs_IAE {args : Array Value} {s : State} (h : ∀ w ∈ wa_all, w.before args s = true) (hT : xs_T s) : ∀ a ∈ Bundle.ownAtoms R_G 58 X_IAE ["java/lang/RuntimeException", "java/lang/Exception"], a.before args s = true :=
  List.forall_mem_cons.mpr ⟨h _ wm_37, List.forall_mem_cons.mpr ⟨h _ wm_152, List.forall_mem_cons.mpr ⟨h _ wm_159, List.forall_mem_cons.mpr ⟨h _ wm_163, List.forall_mem_cons.mpr ⟨h _ wm_165, List.forall_mem_cons.mpr ⟨h _ wm_167, List.forall_mem_cons.mpr ⟨h _ wm_153, List.forall_mem_cons.mpr ⟨h _ wm_154, List.forall_mem_cons.mpr ⟨h _ wm_50, List.forall_mem_cons.mpr ⟨h _ wm_51, List.forall_mem_cons.mpr ⟨h _ wm_155, List.forall_mem_cons.mpr ⟨h _ wm_158, List.forall_mem_cons.mpr ⟨h _ wm_164, List.forall_mem_cons.mpr ⟨h _ wm_188, List.forall_mem_cons.mpr ⟨h _ wm_142, List.forall_mem_cons.mpr ⟨h _ wm_189, List.forall_mem_cons.mpr ⟨h _ wm_144, List.forall_mem_cons.mpr ⟨h _ wm_190, List.forall_mem_cons.mpr ⟨h _ wm_146, List.forall_mem_cons.mpr ⟨h _ wm_156, List.forall_mem_cons.mpr ⟨hT.1 _ xb_0 _, List.forall_mem_cons.mpr ⟨h _ wm_157, List.forall_mem_cons.mpr ⟨hT.1 _ xb_1 _, List.forall_mem_cons.mpr ⟨h _ wm_148, List.forall_mem_cons.mpr ⟨h _ wm_184, List.forall_mem_cons.mpr ⟨h _ wm_185, List.forall_mem_cons.mpr ⟨h _ wm_187, List.forall_mem_cons.mpr ⟨h _ wm_148, List.forall_mem_cons.mpr ⟨h _ wm_175, List.forall_mem_cons.mpr ⟨h _ wm_176, List.forall_mem_cons.mpr ⟨h _ wm_177, List.forall_mem_cons.mpr ⟨h _ wm_178, List.forall_mem_cons.mpr ⟨hT.1 _ xb_4 _, List.forall_mem_cons.mpr ⟨h _ wm_178, List.forall_mem_cons.mpr ⟨h _ wm_179, List.forall_mem_cons.mpr ⟨h _ wm_180, List.forall_mem_cons.mpr ⟨h _ wm_181, List.forall_mem_cons.mpr ⟨hT.1 _ xb_5 _, List.forall_mem_cons.mpr ⟨h _ wm_181, List.forall_mem_cons.mpr ⟨h _ wm_182, List.forall_mem_cons.mpr ⟨h _ wm_183, List.forall_mem_cons.mpr ⟨h _ wm_184, List.forall_mem_cons.mpr ⟨hT.1 _ xb_6 _, List.forall_mem_cons.mpr ⟨h _ wm_252, List.forall_mem_cons.mpr ⟨h _ wm_138, List.forall_mem_cons.mpr ⟨hT.1 _ xb_7 _, List.forall_mem_cons.mpr ⟨h _ wm_139, List.forall_mem_cons.mpr ⟨h _ wm_140, List.forall_mem_cons.mpr ⟨h _ wm_141, List.forall_mem_cons.mpr ⟨h _ wm_143, List.forall_mem_cons.mpr ⟨h _ wm_145, List.forall_mem_cons.mpr ⟨h _ wm_147, List.forall_mem_cons.mpr ⟨hT.1 _ xb_2 _, List.forall_mem_cons.mpr ⟨hT.1 _ xb_3 _, List.forall_mem_cons.mpr ⟨h _ wm_151, List.forall_mem_cons.mpr ⟨h _ wm_150, List.forall_mem_cons.mpr ⟨h _ wm_149, fun _ q => absurd q List.not_mem_nil⟩⟩⟩⟩⟩⟩⟩⟩⟩⟩⟩⟩⟩⟩⟩⟩⟩⟩⟩⟩⟩⟩⟩⟩⟩⟩⟩⟩⟩⟩⟩⟩⟩⟩⟩⟩⟩⟩⟩⟩⟩⟩⟩⟩⟩⟩⟩⟩⟩⟩⟩⟩⟩⟩⟩⟩⟩
def X_ISE : String := "java/lang/IllegalStateException"
set_option maxRecDepth 20000 in
theorem xs_ISE {args : Array Value} {s : State} (h : ∀ w ∈ wa_all, w.before args s = true) (hT : xs_T s) : ∀ a ∈ Bundle.ownAtoms R_G 73 X_ISE ["java/lang/RuntimeException", "java/lang/Exception"], a.before args s = true :=
  List.forall_mem_cons.mpr ⟨h _ wm_37, List.forall_mem_cons.mpr ⟨h _ wm_152, List.forall_mem_cons.mpr ⟨h _ wm_159, List.forall_mem_cons.mpr ⟨h _ wm_163, List.forall_mem_cons.mpr ⟨h _ wm_165, List.forall_mem_cons.mpr ⟨h _ wm_167, List.forall_mem_cons.mpr ⟨h _ wm_153, List.forall_mem_cons.mpr ⟨h _ wm_154, List.forall_mem_cons.mpr ⟨h _ wm_50, List.forall_mem_cons.mpr ⟨h _ wm_51, List.forall_mem_cons.mpr ⟨h _ wm_155, List.forall_mem_cons.mpr ⟨h _ wm_158, List.forall_mem_cons.mpr ⟨h _ wm_164, List.forall_mem_cons.mpr ⟨h _ wm_188, List.forall_mem_cons.mpr ⟨h _ wm_142, List.forall_mem_cons.mpr ⟨h _ wm_189, List.forall_mem_cons.mpr ⟨h _ wm_144, List.forall_mem_cons.mpr ⟨h _ wm_190, List.forall_mem_cons.mpr ⟨h _ wm_146, List.forall_mem_cons.mpr ⟨h _ wm_156, List.forall_mem_cons.mpr ⟨hT.1 _ xb_0 _, List.forall_mem_cons.mpr ⟨h _ wm_157, List.forall_mem_cons.mpr ⟨hT.1 _ xb_1 _, List.forall_mem_cons.mpr ⟨h _ wm_148, List.forall_mem_cons.mpr ⟨h _ wm_184, List.forall_mem_cons.mpr ⟨h _ wm_185, List.forall_mem_cons.mpr ⟨h _ wm_187, List.forall_mem_cons.mpr ⟨h _ wm_148, List.forall_mem_cons.mpr ⟨h _ wm_277, List.forall_mem_cons.mpr ⟨h _ wm_278, List.forall_mem_cons.mpr ⟨h _ wm_279, List.forall_mem_cons.mpr ⟨h _ wm_178, List.forall_mem_cons.mpr ⟨hT.1 _ xb_4 _, List.forall_mem_cons.mpr ⟨h _ wm_178, List.forall_mem_cons.mpr ⟨h _ wm_179, List.forall_mem_cons.mpr ⟨h _ wm_180, List.forall_mem_cons.mpr ⟨h _ wm_181, List.forall_mem_cons.mpr ⟨hT.1 _ xb_5 _, List.forall_mem_cons.mpr ⟨h _ wm_181, List.forall_mem_cons.mpr ⟨h _ wm_182, List.forall_mem_cons.mpr ⟨h _ wm_183, List.forall_mem_cons.mpr ⟨h _ wm_184, List.forall_mem_cons.mpr ⟨hT.1 _ xb_6 _, List.forall_mem_cons.mpr ⟨h _ wm_276, List.forall_mem_cons.mpr ⟨h _ wm_269, List.forall_mem_cons.mpr ⟨hT.1 _ xb_8 _, List.forall_mem_cons.mpr ⟨h _ wm_270, List.forall_mem_cons.mpr ⟨h _ wm_161, List.forall_mem_cons.mpr ⟨h _ wm_271, List.forall_mem_cons.mpr ⟨h _ wm_272, List.forall_mem_cons.mpr ⟨h _ wm_273, List.forall_mem_cons.mpr ⟨h _ wm_274, List.forall_mem_cons.mpr ⟨hT.1 _ xb_2 _, List.forall_mem_cons.mpr ⟨hT.1 _ xb_3 _, List.forall_mem_cons.mpr ⟨h _ wm_151, List.forall_mem_cons.mpr ⟨h _ wm_150, List.forall_mem_cons.mpr ⟨h _ wm_275, fun _ q => absurd q List.not_mem_nil⟩⟩⟩⟩⟩⟩⟩⟩⟩⟩⟩⟩⟩⟩⟩⟩⟩⟩⟩⟩⟩⟩⟩⟩⟩⟩⟩⟩⟩⟩⟩⟩⟩⟩⟩⟩⟩⟩⟩⟩⟩⟩⟩⟩⟩⟩⟩⟩⟩⟩⟩⟩⟩⟩⟩⟩⟩
def X_IOOBE : String := "java/lang/IndexOutOfBoundsException"
set_option maxRecDepth 20000 in
theorem xs_IOOBE {args : Array Value} {s : State} (h : ∀ w ∈ wa_all, w.before args s = true) (hT : xs_T s) : ∀ a ∈ Bundle.ownAtoms R_G 112 X_IOOBE ["java/lang/RuntimeException", "java/lang/Exception"], a.before args s = true :=
  List.forall_mem_cons.mpr ⟨h _ wm_37, List.forall_mem_cons.mpr ⟨h _ wm_152, List.forall_mem_cons.mpr ⟨h _ wm_159, List.forall_mem_cons.mpr ⟨h _ wm_163, List.forall_mem_cons.mpr ⟨h _ wm_165, List.forall_mem_cons.mpr ⟨h _ wm_167, List.forall_mem_cons.mpr ⟨h _ wm_153, List.forall_mem_cons.mpr ⟨h _ wm_154, List.forall_mem_cons.mpr ⟨h _ wm_50, List.forall_mem_cons.mpr ⟨h _ wm_51, List.forall_mem_cons.mpr ⟨h _ wm_155, List.forall_mem_cons.mpr ⟨h _ wm_158, List.forall_mem_cons.mpr ⟨h _ wm_164, List.forall_mem_cons.mpr ⟨h _ wm_188, List.forall_mem_cons.mpr ⟨h _ wm_142, List.forall_mem_cons.mpr ⟨h _ wm_189, List.forall_mem_cons.mpr ⟨h _ wm_144, List.forall_mem_cons.mpr ⟨h _ wm_190, List.forall_mem_cons.mpr ⟨h _ wm_146, List.forall_mem_cons.mpr ⟨h _ wm_156, List.forall_mem_cons.mpr ⟨hT.1 _ xb_0 _, List.forall_mem_cons.mpr ⟨h _ wm_157, List.forall_mem_cons.mpr ⟨hT.1 _ xb_1 _, List.forall_mem_cons.mpr ⟨h _ wm_148, List.forall_mem_cons.mpr ⟨h _ wm_184, List.forall_mem_cons.mpr ⟨h _ wm_185, List.forall_mem_cons.mpr ⟨h _ wm_187, List.forall_mem_cons.mpr ⟨h _ wm_148, List.forall_mem_cons.mpr ⟨h _ wm_199, List.forall_mem_cons.mpr ⟨h _ wm_200, List.forall_mem_cons.mpr ⟨h _ wm_201, List.forall_mem_cons.mpr ⟨h _ wm_178, List.forall_mem_cons.mpr ⟨hT.1 _ xb_4 _, List.forall_mem_cons.mpr ⟨h _ wm_178, List.forall_mem_cons.mpr ⟨h _ wm_179, List.forall_mem_cons.mpr ⟨h _ wm_180, List.forall_mem_cons.mpr ⟨h _ wm_181, List.forall_mem_cons.mpr ⟨hT.1 _ xb_5 _, List.forall_mem_cons.mpr ⟨h _ wm_181, List.forall_mem_cons.mpr ⟨h _ wm_182, List.forall_mem_cons.mpr ⟨h _ wm_183, List.forall_mem_cons.mpr ⟨h _ wm_184, List.forall_mem_cons.mpr ⟨hT.1 _ xb_6 _, List.forall_mem_cons.mpr ⟨h _ wm_313, List.forall_mem_cons.mpr ⟨h _ wm_306, List.forall_mem_cons.mpr ⟨hT.1 _ xb_9 _, List.forall_mem_cons.mpr ⟨h _ wm_307, List.forall_mem_cons.mpr ⟨h _ wm_162, List.forall_mem_cons.mpr ⟨h _ wm_308, List.forall_mem_cons.mpr ⟨h _ wm_309, List.forall_mem_cons.mpr ⟨h _ wm_310, List.forall_mem_cons.mpr ⟨h _ wm_311, List.forall_mem_cons.mpr ⟨hT.1 _ xb_2 _, List.forall_mem_cons.mpr ⟨hT.1 _ xb_3 _, List.forall_mem_cons.mpr ⟨h _ wm_151, List.forall_mem_cons.mpr ⟨h _ wm_150, List.forall_mem_cons.mpr ⟨h _ wm_312, fun _ q => absurd q List.not_mem_nil⟩⟩⟩⟩⟩⟩⟩⟩⟩⟩⟩⟩⟩⟩⟩⟩⟩⟩⟩⟩⟩⟩⟩⟩⟩⟩⟩⟩⟩⟩⟩⟩⟩⟩⟩⟩⟩⟩⟩⟩⟩⟩⟩⟩⟩⟩⟩⟩⟩⟩⟩⟩⟩⟩⟩⟩⟩
def rm_x (d : Nat) : Room := { frames := 6 + d, cells := 1, slots := 6, locals := 100 + 40 * d }
/-- behind a throw: the thrown object, the world -/
def gx_T (D : va_G) (cl : List vw_C) (A : Nat → Prop) (w : va_W) (X : String) (Z : va_W → Prop) : Array Value → State → Outcome → State → Prop := fun _ st o t =>
  ∃ (x : Addr) (cell : Cell) (w' : va_W), o = .threw x ∧ t.heap[x]? = some cell ∧ cell.vm = .none ∧ t.vm.findClass X = some cell.cls ∧ Z w' ∧ w'.map (fun q => q.1) = w.map (fun q => q.1) ∧ va_P D cl w' t.heap ∧ va_F A st t
section XS
variable {p : Program} {l : Launch} {e : Env} {R : Room} {s : State} {m : MethodId} {args : Array Value} {below : List Frame} {meth : Method} {c : Code} {H : Heap} {locs : List Loc} {cells slots : Nat}
/-- new, dup, ldc, the constructor, athrow -/
theorem xs_go {cc : ByteArray} {Qc : Array Value → State → Outcome → State → Prop} {free : Addr → Prop} {cls tx : String} {ik il ic pc : Nat} {ls : Array Slot} {names : List String} (hexec : p.tables.exec = Jvm.exec) (hb : c.code = cc) (htr : ∀ e : Env, l.admits e → e.platform.stackTraces = false) (hown : s.vm.findClass R_G = some m.cls) (hno : c.exceptionTable.isEmpty = true) (hlocks : meth.locks = false)
    (hcls : Bundle.fit cls = true) (hnames : ∀ n ∈ names, Bundle.fit n = true) (h : ∀ a ∈ Bundle.ownAtoms R_G ic cls names, a.before args s = true) (hlink : (Cond.classLink R_G ik cls).before args s = true) (hinit : (Cond.initialized cls).before args s = true) (hL : ∃ q, vk_R R_G il tx q s)
    (d0 : decode cc pc = .ok (.new ik, 3)) (d1 : decode cc (pc + 3) = .ok (.dup, 1)) (d2 : decode cc (pc + 3 + 1) = .ok (.ldc il, 2)) (d3 : decode cc (pc + 3 + 1 + 2) = .ok (.invokespecial ic, 3)) (d4 : decode cc (pc + 3 + 1 + 2 + 3) = .ok (.athrow, 1)) (hsize : ls.size = c.maxLocals)
    (hlocs : ∀ x ∈ locs, ∀ cell, s.heap[x.base]? = some cell → cell.vm.isStatics = false) (hH : s.heap.size ≤ H.size) (hR : names.length + 3 < R.frames ∧ 1 + (13 * (names.length + 1) + 42) ≤ R.locals) (hroom : cells + 1 ≤ R.cells ∧ slots + 6 ≤ R.slots)
    (hf : ∀ q ∈ locs, free q.base)
    (hq : ∀ (t : State) (cell : Cell), t.heap.size = H.size + 1 → (∀ q : Nat, q < H.size → t.heap[q]? = H[q]?) → t.heap[H.size]? = some cell → cell.vm = .none → t.vm.findClass cls = some cell.cls → s.WarmedH t.vm → Qc args s (.threw H.size) t) :
    W p l e R s m args below meth c H locs cells slots (xt_Q below Qc args s (cells + 1) (slots + 6) free) (F0 m pc ls []) := by
  obtain ⟨q, hL⟩ := hL
  refine W.newc hexec hb hown hlink (h (.instantiable cls 6) (by simp [Bundle.ownAtoms])) hinit (g := F0 m pc ls []) rfl d0 hroom.1 hroom.2 fun cX kX f1 f2 f3 f4 => ?_
  refine lv_dup hexec hb d1 rfl ?_
  refine va_ldcS hexec hb hown hL d2 ?_
  refine xt_ctor hexec hb htr hown hcls hnames h hlocs (a := H.size) f1 f2 (by rw [Array.getElem?_push_size]) hH rfl hsize d3 hR.1 hR.2 fun cell' g1 g2 => ?_
  refine xt_athrow hexec hb hno (fun t ht hW => ?_) hf d4 hlocks
  refine hq t cell' (by rw [ht]; simp) (fun q hq => ?_) ?_ g2 (by rw [hW.alike.findClass, g1]; exact f1) hW
  · rw [ht, Array.getElem?_setIfInBounds_ne (Nat.ne_of_gt hq), Array.getElem?_push, if_neg (Nat.ne_of_lt hq)]
  · rw [ht, Array.getElem?_setIfInBounds_self]
    simp
end XS
