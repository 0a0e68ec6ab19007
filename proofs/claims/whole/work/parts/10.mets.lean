/-! contracts: what reads, what changes a world of fixed addresses -/
def rm_d (d : Nat) : Room := { frames := d, cells := 0, slots := 0, locals := 40 * d }
def gx_I (D : va_G) (cl : List vw_C) (tys : List (ClassId × FieldType)) (w : va_W) (U : State) : Prop := va_P D cl w U.heap ∧ va_K D cl tys U ∧ va_D (fun _ => True) w
def gx_A (hs : Nat → Nat) (n : Nat) : Nat → Prop := fun q => ∃ k, k < n ∧ q = hs k
/-- behind a method: its answer and the world, which 'Z' ties -/
def gx_Q (D : va_G) (cl : List vw_C) (A : Nat → Prop) (w : va_W) (Z : Option Value → va_W → Prop) : Array Value → State → Outcome → State → Prop := fun _ st o t =>
  ∃ (v : Option Value) (w' : va_W), o = .returned v ∧ Z v w' ∧ w'.map (fun q => q.1) = w.map (fun q => q.1) ∧ va_P D cl w' t.heap ∧ va_F A st t
theorem gx_blind {av : List Value} {D : va_G} {cl : List vw_C} {tys : List (ClassId × FieldType)} {w : va_W} : FrameBlind (va_Pc av (gx_I D cl tys w)) :=
  fun _ U g mk q => ⟨q.1, q.2.1, va_K.moved (u := U) (U := U.calling g mk _) (Vm.Alike.refl U.vm) q.2.2.1, q.2.2.2⟩
theorem gx_Dadr {A : Nat → Prop} {w w' : va_W} (h : va_D A w) (e : w'.map (fun q => q.1) = w.map (fun q => q.1)) : va_D A w' := by
  have key : ∀ (k : Nat) (q : Nat × va_E), w'[k]? = some q → ∃ q', w[k]? = some q' ∧ q'.1 = q.1 := by
    intro k q hk
    have h1 : (w'.map (fun q => q.1))[k]? = some q.1 := by rw [List.getElem?_map, hk]; rfl
    rw [e, List.getElem?_map] at h1
    cases h2 : w[k]? with
    | none => rw [h2] at h1; cases h1
    | some q' => rw [h2] at h1; exact ⟨q', rfl, Option.some.inj h1⟩
  refine ⟨fun i j x y hi hj hxy => ?_, fun k q hk => ?_⟩
  · obtain ⟨x', a1, a2⟩ := key i x hi
    obtain ⟨y', b1, b2⟩ := key j y hj
    exact h.1 i j x' y' a1 b1 (a2.trans (hxy.trans b2.symm))
  · obtain ⟨q', a1, a2⟩ := key k q hk
    rw [← a2]
    exact h.2 k q' a1
/-- the values of an array matter within its length alone -/
theorem gx_ext {D : va_G} {cl : List vw_C} {w : va_W} {H : Heap} {a n q0 : Nat} {cA : ClassId} {f g : Nat → Int32} (hP : va_P D cl w H) (ha : w[q0]? = some (a, .inl (cA, n, .inl f))) (h : ∀ j, j < n → f j = g j) : va_P D cl (w.set q0 (a, .inl (cA, n, .inl g))) H := by
  have hl := (List.getElem?_eq_some_iff.mp ha).1
  intro k q hk
  by_cases hkp : k = q0
  · subst hkp
    rw [List.getElem?_set_self hl] at hk
    cases hk
    have h1 : H[a]? = some (vp_cell cA (n, .inl f)) := hP k _ ha
    show H[a]? = some (vp_cell cA (n, .inl g))
    rw [h1, vp_cell_i, vp_cell_i]
    congr 1
    unfold arrV
    congr 1
    apply Array.ext
    · simp
    · intro i i1 i2
      simp at i1
      simp [h i i1]
  · rw [List.getElem?_set_ne (Ne.symm hkp)] at hk
    exact hP k q hk
theorem gx_narb (b : Bool) : narrow .boolean (.int (zb_e b)) = .int (zb_e b) := by
  cases b <;> rfl
section GX
variable {l : Launch}
theorem gx_pureI {y : MethodName} {ws' : List Cond} {rm : Room} {cc : ByteArray} {maxL : Nat} {av : List Value} {r : Int32} {D : va_G} {cl : List vw_C} {tys : List (ClassId × FieldType)} {w : va_W}
    (hy : plainName y.cls = true) (hlen : (lg_sl av).length ≤ maxL)
    (body : ∀ (p : Program) (e : Env) (s : State) (m : MethodId) (args : Array Value) (below : List Frame) (meth : Method) (c : Code) (ls : Array Slot) (Q : State → Prop), p.tables.exec = Jvm.exec → c.code = cc → c.maxLocals = maxL →
      (∀ w ∈ ws', w.before args s = true) → s.vm.findClass y.cls = some m.cls →
      (∀ (pc : Nat) (ls : Array Slot) (v : Int32), decode cc pc = .ok (.ireturn, 1) → v = r → W p l e rm s m args below meth c s.heap [] 0 0 Q (F0 m pc ls [.int (v)])) →
      va_P D cl w s.heap → va_K D cl tys s → va_D (fun _ => True) w → lv_has ls maxL (lv_args 0 av) → W p l e rm s m args below meth c s.heap [] 0 0 Q (F0 m 0 ls [])) :
    Met l y (Cond.code y cc maxL (some .int) :: ws') rm (va_Pc av (gx_I D cl tys w)) (QcRead r) 0 0 (fun _ => False) := by
  refine Met.ofW (cc := cc) (maxL := maxL) (ret := some .int) hy rfl ?_
  intro p e s m args below meth c s₁ B hml hv
  obtain ⟨rfl, hP, hK, hD⟩ := hv
  have hl := lv_entry av (n := maxL) hlen
  rw [lg_entry_eq]
  refine body p e s m _ below meth c _ _ B.exec B.bytes hml (fun w h => atoms_spec (ws := Cond.code y cc maxL (some .int) :: ws') B.pre w (List.mem_cons_of_mem _ h)) (findClass_of_methodNamed B.named) (fun pc ls v hdg h => ?_) hP hK hD hl
  subst h
  exact W.iret B.exec B.bytes B.returns (fun t ht _ => ⟨rfl, ht⟩) t_nil hdg B.notSynchronized
theorem gx_pureZ {y : MethodName} {ws' : List Cond} {rm : Room} {cc : ByteArray} {maxL : Nat} {av : List Value} {r : Int32} {D : va_G} {cl : List vw_C} {tys : List (ClassId × FieldType)} {w : va_W}
    (hy : plainName y.cls = true) (hlen : (lg_sl av).length ≤ maxL)
    (body : ∀ (p : Program) (e : Env) (s : State) (m : MethodId) (args : Array Value) (below : List Frame) (meth : Method) (c : Code) (ls : Array Slot) (Q : State → Prop), p.tables.exec = Jvm.exec → c.code = cc → c.maxLocals = maxL →
      (∀ w ∈ ws', w.before args s = true) → s.vm.findClass y.cls = some m.cls →
      (∀ (pc : Nat) (ls : Array Slot) (v : Bool), decode cc pc = .ok (.ireturn, 1) → zb_e v = r → W p l e rm s m args below meth c s.heap [] 0 0 Q (F0 m pc ls [.int (zb_e v)])) →
      va_P D cl w s.heap → va_K D cl tys s → va_D (fun _ => True) w → lv_has ls maxL (lv_args 0 av) → W p l e rm s m args below meth c s.heap [] 0 0 Q (F0 m 0 ls [])) :
    Met l y (Cond.code y cc maxL (some .boolean) :: ws') rm (va_Pc av (gx_I D cl tys w)) (QcRead r) 0 0 (fun _ => False) := by
  refine Met.ofW (cc := cc) (maxL := maxL) (ret := some .boolean) hy rfl ?_
  intro p e s m args below meth c s₁ B hml hv
  obtain ⟨rfl, hP, hK, hD⟩ := hv
  have hl := lv_entry av (n := maxL) hlen
  rw [lg_entry_eq]
  refine body p e s m _ below meth c _ _ B.exec B.bytes hml (fun w h => atoms_spec (ws := Cond.code y cc maxL (some .boolean) :: ws') B.pre w (List.mem_cons_of_mem _ h)) (findClass_of_methodNamed B.named) (fun pc ls v hdg h => ?_) hP hK hD hl
  subst h
  exact W.zret B.exec B.bytes B.returns (gx_narb v) (fun t ht _ => ⟨rfl, ht⟩) t_nil hdg B.notSynchronized
theorem gx_mutV {y : MethodName} {ws' : List Cond} {rm : Room} {cc : ByteArray} {maxL mc ms : Nat} {av : List Value} {A : Nat → Prop} {Z : Option Value → va_W → Prop} {D : va_G} {cl : List vw_C} {tys : List (ClassId × FieldType)} {w : va_W}
    (hy : plainName y.cls = true) (hlen : (lg_sl av).length ≤ maxL) (hA : ∀ (k : Nat) (q : Nat × va_E), w[k]? = some q → A q.1)
    (body : ∀ (p : Program) (e : Env) (s : State) (m : MethodId) (args : Array Value) (below : List Frame) (meth : Method) (c : Code) (ls : Array Slot) (Q : State → Prop), p.tables.exec = Jvm.exec → c.code = cc → c.maxLocals = maxL →
      (∀ w ∈ ws', w.before args s = true) → s.vm.findClass y.cls = some m.cls →
      (∀ (pc : Nat) (ls : Array Slot) (w' : va_W) (H : Heap) (locs : List Loc), decode cc pc = .ok (.return_, 1) → va_P D cl w' H → va_S A s.heap H locs → w'.map (fun q => q.1) = w.map (fun q => q.1) → Z (none) w' → W p l e rm s m args below meth c H locs mc ms Q (F0 m pc ls [])) →
      va_P D cl w s.heap → va_K D cl tys s → va_D A w → va_S A s.heap s.heap [] → lv_has ls maxL (lv_args 0 av) → W p l e rm s m args below meth c s.heap [] 0 0 Q (F0 m 0 ls [])) :
    Met l y (Cond.code y cc maxL (none) :: ws') rm (va_Pc av (gx_I D cl tys w)) (gx_Q D cl A w Z) mc ms A := by
  refine Met.ofW (cc := cc) (maxL := maxL) (ret := none) hy rfl ?_
  intro p e s m args below meth c s₁ B hml hv
  obtain ⟨rfl, hP, hK, hD⟩ := hv
  have hl := lv_entry av (n := maxL) hlen
  rw [lg_entry_eq]
  refine body p e s m _ below meth c _ _ B.exec B.bytes hml (fun w h => atoms_spec (ws := Cond.code y cc maxL (none) :: ws') B.pre w (List.mem_cons_of_mem _ h)) (findClass_of_methodNamed B.named) (fun pc ls w' H locs hdg hP hS hadr hZ => ?_) hP hK (hD.weaken (fun k q hk _ => hA k q hk)) va_S.rf hl
  exact W.vret B.exec B.bytes B.returns (fun t ht _ => ⟨none, w', rfl, hZ, hadr, by rw [ht]; exact hP, hS.F ht⟩) hS.2.2 hdg B.notSynchronized
theorem gx_mutI {y : MethodName} {ws' : List Cond} {rm : Room} {cc : ByteArray} {maxL mc ms : Nat} {av : List Value} {A : Nat → Prop} {Z : Option Value → va_W → Prop} {D : va_G} {cl : List vw_C} {tys : List (ClassId × FieldType)} {w : va_W}
    (hy : plainName y.cls = true) (hlen : (lg_sl av).length ≤ maxL) (hA : ∀ (k : Nat) (q : Nat × va_E), w[k]? = some q → A q.1)
    (body : ∀ (p : Program) (e : Env) (s : State) (m : MethodId) (args : Array Value) (below : List Frame) (meth : Method) (c : Code) (ls : Array Slot) (Q : State → Prop), p.tables.exec = Jvm.exec → c.code = cc → c.maxLocals = maxL →
      (∀ w ∈ ws', w.before args s = true) → s.vm.findClass y.cls = some m.cls →
      (∀ (pc : Nat) (ls : Array Slot) (v : Int32) (w' : va_W) (H : Heap) (locs : List Loc), decode cc pc = .ok (.ireturn, 1) → va_P D cl w' H → va_S A s.heap H locs → w'.map (fun q => q.1) = w.map (fun q => q.1) → Z (some (.int v)) w' → W p l e rm s m args below meth c H locs mc ms Q (F0 m pc ls [.int v])) →
      va_P D cl w s.heap → va_K D cl tys s → va_D A w → va_S A s.heap s.heap [] → lv_has ls maxL (lv_args 0 av) → W p l e rm s m args below meth c s.heap [] 0 0 Q (F0 m 0 ls [])) :
    Met l y (Cond.code y cc maxL (some .int) :: ws') rm (va_Pc av (gx_I D cl tys w)) (gx_Q D cl A w Z) mc ms A := by
  refine Met.ofW (cc := cc) (maxL := maxL) (ret := some .int) hy rfl ?_
  intro p e s m args below meth c s₁ B hml hv
  obtain ⟨rfl, hP, hK, hD⟩ := hv
  have hl := lv_entry av (n := maxL) hlen
  rw [lg_entry_eq]
  refine body p e s m _ below meth c _ _ B.exec B.bytes hml (fun w h => atoms_spec (ws := Cond.code y cc maxL (some .int) :: ws') B.pre w (List.mem_cons_of_mem _ h)) (findClass_of_methodNamed B.named) (fun pc ls v w' H locs hdg hP hS hadr hZ => ?_) hP hK (hD.weaken (fun k q hk _ => hA k q hk)) va_S.rf hl
  exact W.iret B.exec B.bytes B.returns (fun t ht _ => ⟨some (.int v), w', rfl, hZ, hadr, by rw [ht]; exact hP, hS.F ht⟩) hS.2.2 hdg B.notSynchronized
theorem gx_mutZ {y : MethodName} {ws' : List Cond} {rm : Room} {cc : ByteArray} {maxL mc ms : Nat} {av : List Value} {A : Nat → Prop} {Z : Option Value → va_W → Prop} {D : va_G} {cl : List vw_C} {tys : List (ClassId × FieldType)} {w : va_W}
    (hy : plainName y.cls = true) (hlen : (lg_sl av).length ≤ maxL) (hA : ∀ (k : Nat) (q : Nat × va_E), w[k]? = some q → A q.1)
    (body : ∀ (p : Program) (e : Env) (s : State) (m : MethodId) (args : Array Value) (below : List Frame) (meth : Method) (c : Code) (ls : Array Slot) (Q : State → Prop), p.tables.exec = Jvm.exec → c.code = cc → c.maxLocals = maxL →
      (∀ w ∈ ws', w.before args s = true) → s.vm.findClass y.cls = some m.cls →
      (∀ (pc : Nat) (ls : Array Slot) (v : Bool) (w' : va_W) (H : Heap) (locs : List Loc), decode cc pc = .ok (.ireturn, 1) → va_P D cl w' H → va_S A s.heap H locs → w'.map (fun q => q.1) = w.map (fun q => q.1) → Z (some (.int (zb_e v))) w' → W p l e rm s m args below meth c H locs mc ms Q (F0 m pc ls [.int (zb_e v)])) →
      va_P D cl w s.heap → va_K D cl tys s → va_D A w → va_S A s.heap s.heap [] → lv_has ls maxL (lv_args 0 av) → W p l e rm s m args below meth c s.heap [] 0 0 Q (F0 m 0 ls [])) :
    Met l y (Cond.code y cc maxL (some .boolean) :: ws') rm (va_Pc av (gx_I D cl tys w)) (gx_Q D cl A w Z) mc ms A := by
  refine Met.ofW (cc := cc) (maxL := maxL) (ret := some .boolean) hy rfl ?_
  intro p e s m args below meth c s₁ B hml hv
  obtain ⟨rfl, hP, hK, hD⟩ := hv
  have hl := lv_entry av (n := maxL) hlen
  rw [lg_entry_eq]
  refine body p e s m _ below meth c _ _ B.exec B.bytes hml (fun w h => atoms_spec (ws := Cond.code y cc maxL (some .boolean) :: ws') B.pre w (List.mem_cons_of_mem _ h)) (findClass_of_methodNamed B.named) (fun pc ls v w' H locs hdg hP hS hadr hZ => ?_) hP hK (hD.weaken (fun k q hk _ => hA k q hk)) va_S.rf hl
  exact W.zret B.exec B.bytes B.returns (gx_narb v) (fun t ht _ => ⟨some (.int (zb_e v)), w', rfl, hZ, hadr, by rw [ht]; exact hP, hS.F ht⟩) hS.2.2 hdg B.notSynchronized
theorem gx_statI {y : MethodName} {ws' : List Cond} {rm : Room} {cc : ByteArray} {maxL : Nat} {av : List Value} {r : Int32}
    (hy : plainName y.cls = true) (hlen : (lg_sl av).length ≤ maxL)
    (body : ∀ (p : Program) (e : Env) (s : State) (m : MethodId) (args : Array Value) (below : List Frame) (meth : Method) (c : Code) (ls : Array Slot) (Q : State → Prop), p.tables.exec = Jvm.exec → c.code = cc → c.maxLocals = maxL →
      (∀ w ∈ ws', w.before args s = true) → s.vm.findClass y.cls = some m.cls →
      (∀ (pc : Nat) (ls : Array Slot) (v : Int32), decode cc pc = .ok (.ireturn, 1) → v = r → W p l e rm s m args below meth c s.heap [] 0 0 Q (F0 m pc ls [.int (v)])) →
      lv_has ls maxL (lv_args 0 av) → W p l e rm s m args below meth c s.heap [] 0 0 Q (F0 m 0 ls [])) :
    Met l y (Cond.code y cc maxL (some .int) :: ws') rm (fun v _ => v = av.toArray) (QcRead r) 0 0 (fun _ => False) := by
  refine Met.ofW (cc := cc) (maxL := maxL) (ret := some .int) hy rfl ?_
  intro p e s m args below meth c s₁ B hml hv
  subst hv
  have hl := lv_entry av (n := maxL) hlen
  rw [lg_entry_eq]
  refine body p e s m _ below meth c _ _ B.exec B.bytes hml (fun w h => atoms_spec (ws := Cond.code y cc maxL (some .int) :: ws') B.pre w (List.mem_cons_of_mem _ h)) (findClass_of_methodNamed B.named) (fun pc ls v hdg h => ?_) hl
  subst h
  exact W.iret B.exec B.bytes B.returns (fun t ht _ => ⟨rfl, ht⟩) t_nil hdg B.notSynchronized
theorem gx_statZ {y : MethodName} {ws' : List Cond} {rm : Room} {cc : ByteArray} {maxL : Nat} {av : List Value} {r : Int32}
    (hy : plainName y.cls = true) (hlen : (lg_sl av).length ≤ maxL)
    (body : ∀ (p : Program) (e : Env) (s : State) (m : MethodId) (args : Array Value) (below : List Frame) (meth : Method) (c : Code) (ls : Array Slot) (Q : State → Prop), p.tables.exec = Jvm.exec → c.code = cc → c.maxLocals = maxL →
      (∀ w ∈ ws', w.before args s = true) → s.vm.findClass y.cls = some m.cls →
      (∀ (pc : Nat) (ls : Array Slot) (v : Bool), decode cc pc = .ok (.ireturn, 1) → zb_e v = r → W p l e rm s m args below meth c s.heap [] 0 0 Q (F0 m pc ls [.int (zb_e v)])) →
      lv_has ls maxL (lv_args 0 av) → W p l e rm s m args below meth c s.heap [] 0 0 Q (F0 m 0 ls [])) :
    Met l y (Cond.code y cc maxL (some .boolean) :: ws') rm (fun v _ => v = av.toArray) (QcRead r) 0 0 (fun _ => False) := by
  refine Met.ofW (cc := cc) (maxL := maxL) (ret := some .boolean) hy rfl ?_
  intro p e s m args below meth c s₁ B hml hv
  subst hv
  have hl := lv_entry av (n := maxL) hlen
  rw [lg_entry_eq]
  refine body p e s m _ below meth c _ _ B.exec B.bytes hml (fun w h => atoms_spec (ws := Cond.code y cc maxL (some .boolean) :: ws') B.pre w (List.mem_cons_of_mem _ h)) (findClass_of_methodNamed B.named) (fun pc ls v hdg h => ?_) hl
  subst h
  exact W.zret B.exec B.bytes B.returns (gx_narb v) (fun t ht _ => ⟨rfl, ht⟩) t_nil hdg B.notSynchronized
end GX
section GY
variable {p : Program} {l : Launch} {e : Env} {R : Room} {s : State} {m : MethodId} {args : Array Value} {below : List Frame} {meth : Method} {c : Code} {H : Heap} {locs : List Loc} {cells slots : Nat} {Q : State → Prop}
variable {cc : ByteArray} {pc : Nat} {ls : Array Slot} {rest : List Value} {D : va_G} {cl : List vw_C} {A : Nat → Prop} {a : Nat} {tys : List (ClassId × FieldType)} {w w' : va_W} {H0 : Heap} {Z : Option Value → va_W → Prop}
/-- a call that changes a world -/
theorem gx_go {mc ms : Nat} {st0 : List Value} {A1 : Nat → Prop} {av : Array Value} (hr : CallRun p l e R s m args below meth c H locs cells slots mc ms (F0 m pc ls st0) rest (gx_Q D cl A1 w Z av) A1) (hD : va_D A w) (hS : va_S A H0 H locs) (hA : ∀ q, A1 q → A q)
    (kk : ∀ (v : Option Value) (w' : va_W) (H1 : Heap) (locs1 : List Loc), Z v w' → va_P D cl w' H1 → va_D A w' → va_S A H0 H1 locs1 → H.size ≤ H1.size → (∀ q : Nat, q < H.size → ¬ A1 q → H1[q]? = H[q]?) → W p l e R s m args below meth c H1 locs1 (cells + mc) (slots + ms) Q (F0 m (pc + 3) ls (v.toList ++ rest))) :
    W p l e R s m args below meth c H locs cells slots Q (F0 m pc ls st0) := by
  intro T hT X
  obtain ⟨v, st₀, t, T', L, h0, X', hL, e1, ⟨v', w', hv, hZ, hadr, hP, hz, hk⟩, st⟩ := hr T hT X
  cases hv
  rw [h0] at hz hk
  obtain ⟨t2, a1, b1⟩ := kk v w' T'.heap (locs ++ L) hZ (by rw [e1]; exact hP) (gx_Dadr hD hadr)
    ⟨Nat.le_trans hS.1 (by rw [e1]; exact hz), fun q h1 h2 => by rw [e1, hk q (Nat.lt_of_lt_of_le h1 hS.1) (fun z => h2 (hA q z))]; exact hS.2.1 q h1 h2, fun q hq => by
      rcases List.mem_append.mp hq with h | h
      · exact hS.2.2 q h
      · exact hA _ (hL q h)⟩ (by rw [e1]; exact hz) (fun q h1 h2 => by rw [e1]; exact hk q h1 h2) T' rfl X'
  exact ⟨t2, st t2 a1, b1⟩
end GY
