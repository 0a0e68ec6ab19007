/-! methods that answer nothing and change nothing -/
def gx_V : Array Value → State → Outcome → State → Prop := fun _ st o t => o = .returned none ∧ t.heap = st.heap
section GV
variable {l : Launch}
theorem gx_pureV {y : MethodName} {ws' : List Cond} {rm : Room} {cc : ByteArray} {maxL : Nat} {av : List Value} {D : va_G} {cl : List vw_C} {tys : List (ClassId × FieldType)} {w : va_W}
    (hy : plainName y.cls = true) (hlen : (lg_sl av).length ≤ maxL)
    (body : ∀ (p : Program) (e : Env) (s : State) (m : MethodId) (args : Array Value) (below : List Frame) (meth : Method) (c : Code) (ls : Array Slot) (Q : State → Prop), p.tables.exec = Jvm.exec → c.code = cc → c.maxLocals = maxL →
      (∀ w ∈ ws', w.before args s = true) → s.vm.findClass y.cls = some m.cls →
      (∀ (pc : Nat) (ls : Array Slot), decode cc pc = .ok (.return_, 1) → W p l e rm s m args below meth c s.heap [] 0 0 Q (F0 m pc ls [])) →
      va_P D cl w s.heap → va_K D cl tys s → va_D (fun _ => True) w → lv_has ls maxL (lv_args 0 av) → W p l e rm s m args below meth c s.heap [] 0 0 Q (F0 m 0 ls [])) :
    Met l y (Cond.code y cc maxL none :: ws') rm (va_Pc av (gx_I D cl tys w)) gx_V 0 0 (fun _ => False) := by
  refine Met.ofW (cc := cc) (maxL := maxL) (ret := none) hy rfl ?_
  intro p e s m args below meth c s₁ B hml hv
  obtain ⟨rfl, hP, hK, hD⟩ := hv
  have hl := lv_entry av (n := maxL) hlen
  rw [lg_entry_eq]
  exact body p e s m _ below meth c _ _ B.exec B.bytes hml (fun w h => atoms_spec (ws := Cond.code y cc maxL none :: ws') B.pre w (List.mem_cons_of_mem _ h)) (findClass_of_methodNamed B.named)
    (fun pc ls hdg => W.vret B.exec B.bytes B.returns (fun t ht _ => ⟨rfl, ht⟩) t_nil hdg B.notSynchronized) hP hK hD hl
theorem gx_statV {y : MethodName} {ws' : List Cond} {rm : Room} {cc : ByteArray} {maxL : Nat} {av : List Value}
    (hy : plainName y.cls = true) (hlen : (lg_sl av).length ≤ maxL)
    (body : ∀ (p : Program) (e : Env) (s : State) (m : MethodId) (args : Array Value) (below : List Frame) (meth : Method) (c : Code) (ls : Array Slot) (Q : State → Prop), p.tables.exec = Jvm.exec → c.code = cc → c.maxLocals = maxL →
      (∀ w ∈ ws', w.before args s = true) → s.vm.findClass y.cls = some m.cls →
      (∀ (pc : Nat) (ls : Array Slot), decode cc pc = .ok (.return_, 1) → W p l e rm s m args below meth c s.heap [] 0 0 Q (F0 m pc ls [])) →
      lv_has ls maxL (lv_args 0 av) → W p l e rm s m args below meth c s.heap [] 0 0 Q (F0 m 0 ls [])) :
    Met l y (Cond.code y cc maxL none :: ws') rm (fun v _ => v = av.toArray) gx_V 0 0 (fun _ => False) := by
  refine Met.ofW (cc := cc) (maxL := maxL) (ret := none) hy rfl ?_
  intro p e s m args below meth c s₁ B hml hv
  subst hv
  have hl := lv_entry av (n := maxL) hlen
  rw [lg_entry_eq]
  exact body p e s m _ below meth c _ _ B.exec B.bytes hml (fun w h => atoms_spec (ws := Cond.code y cc maxL none :: ws') B.pre w (List.mem_cons_of_mem _ h)) (findClass_of_methodNamed B.named)
    (fun pc ls hdg => W.vret B.exec B.bytes B.returns (fun t ht _ => ⟨rfl, ht⟩) t_nil hdg B.notSynchronized) hl
end GV
theorem gx_set {D : va_G} {cl : List vw_C} {A : Nat → Prop} {p : Nat} {w : va_W} {a : Nat} {e0 e : va_E} {H H1 : Heap} (h : va_P D cl w H) (hD : va_D A w) (hp : w[p]? = some (a, e0)) (he : va_at D cl (a, e) H1) (oq : ∀ q : Nat, q < H.size → q ≠ a → H1[q]? = H[q]?) : va_P D cl (w.set p (a, e)) H1 := by
  have hl := (List.getElem?_eq_some_iff.mp hp).1
  intro k q hk
  by_cases hkp : k = p
  · subst hkp
    rw [List.getElem?_set_self hl] at hk
    cases hk
    exact he
  · rw [List.getElem?_set_ne (Ne.symm hkp)] at hk
    exact (h k q hk).kept (oq q.1 (h k q hk).lt (fun z => hkp (hD.1 k p q (a, e0) hk hp z)))
section GW
variable {p : Program} {l : Launch} {e : Env} {R : Room} {s : State} {m : MethodId} {args : Array Value} {below : List Frame} {meth : Method} {c : Code} {H : Heap} {locs : List Loc} {cells slots : Nat} {Q : State → Prop}
variable {cc : ByteArray} {pc nL : Nat} {ls : Array Slot} {rest st0 : List Value} {D : va_G} {cl : List vw_C} {A : Nat → Prop} {a : Nat} {tys : List (ClassId × FieldType)} {w : va_W} {H0 : Heap}
variable {wa : List Cond} {y : MethodName} {bytes : ByteArray} {maxL index n : Nat} {own C : String} {rm : Room} {b : Addr} {As : List Value}
theorem gx_goV {a : Array Value} (hr : CallRun p l e R s m args below meth c H locs cells slots 0 0 (F0 m pc ls st0) rest (gx_V a) (fun _ => False)) (k : W p l e R s m args below meth c H locs cells slots Q (F0 m (pc + 3) ls rest)) : W p l e R s m args below meth c H locs cells slots Q (F0 m pc ls st0) := by
  intro T hT X
  obtain ⟨v, st₀, t, T', L, h0, X', hL, e1, ⟨hv, hh⟩, st⟩ := hr T hT X
  cases hv
  obtain ⟨t2, a1, b1⟩ := k T' (by rw [e1, hh, h0]) (Stand.forget X' (fun q h => (hL q h).elim))
  exact ⟨t2, st t2 a1, b1⟩
theorem gx_cVv {q0 ci : Nat} {q : vw_C} {fs : List Value} (S : CallFix p m c cc nL s args wa own) (hg : GoodIn wa wa) (hM : Met l y (Cond.code y bytes maxL none :: wa) rm (va_Pc (.ref b :: As) (gx_I D cl tys w)) gx_V 0 0 (fun _ => False))
    (h1 : Cond.methodLink own index y ∈ wa) (h2 : Cond.instanceMethod y ∈ wa) (h3 : Cond.selects C y y ∈ wa) (h4 : Cond.initialized C ∈ wa) (h5 : Cond.code y bytes maxL none ∈ wa)
    (hd : y.cls = C ∧ y.cls ≠ "java/lang/invoke/MethodHandle" ∧ y.cls ≠ "java/lang/invoke/VarHandle" ∧ (parseMethodDescriptor y.desc).map (fun d => d.parameters.length) = some n) (hn : As.length = n)
    (hrc : rm.cells = 0 ∧ rm.slots = 0) (hR : rm.frames + 1 ≤ R.frames ∧ 8 + (maxL + 11) + rm.locals ≤ R.locals) (hf : cells + 0 ≤ R.cells ∧ slots + 0 ≤ R.slots)
    (hK : va_K D cl tys s) (hP : va_P D cl w H) (hD : va_D A w) (hc : cl[ci]? = some q) (hq : q.1 = C) (he : w[q0]? = some (b, .inr (ci, fs)))
    (hsize : ls.size = nL) (hst : st0 = As.reverse ++ .ref b :: rest) (hW : (rest.map fun v => v.category).sum ≤ 8) (hdg : decode cc pc = .ok (.invokevirtual index, 3))
    (k : W p l e R s m args below meth c H locs cells slots Q (F0 m (pc + 3) ls rest)) : W p l e R s m args below meth c H locs cells slots Q (F0 m pc ls st0) := by
  have hG : GoodIn wa (wsV own index C y (Cond.code y bytes maxL none :: wa)) := wg_cons hg h1 (wg_cons hg h2 (wg_cons hg h3 (wg_cons hg h4 (wg_cons hg h5 hg))))
  refine gx_goV (W.runV (C := C) (g := F0 m pc ls st0) (As := As) (rest := rest) S hM (cwV n S.2.2.2.2 hG rfl hrc.1 hrc.2 hd hR) ⟨gx_blind, ?_, fun U hU hW => ⟨rfl, by rw [hU]; exact hP, va_K.moved hW.alike hK, hD.weaken (fun _ _ _ _ => trivial)⟩⟩ rfl hn hsize hst (lv_room hW) hdg hf) k
  subst hq
  exact va_recv hK hP hc he
theorem gx_cSv (S : CallFix p m c cc nL s args wa own) (hg : GoodIn wa wa) (hM : Met l y (Cond.code y bytes maxL none :: wa) rm (fun v _ => v = As.toArray) gx_V 0 0 (fun _ => False))
    (h1 : Cond.methodLink own index y ∈ wa) (h2 : Cond.static y ∈ wa) (h4 : Cond.initialized own ∈ wa) (h5 : Cond.code y bytes maxL none ∈ wa)
    (hd : y.cls = own ∧ y.cls ≠ "java/lang/invoke/MethodHandle" ∧ y.cls ≠ "java/lang/invoke/VarHandle" ∧ (parseMethodDescriptor y.desc).map (fun d => d.parameters.length) = some n) (hn : As.length = n)
    (hrc : rm.cells = 0 ∧ rm.slots = 0) (hR : rm.frames + 1 ≤ R.frames ∧ 8 + (maxL + 11) + rm.locals ≤ R.locals) (hf : cells + 0 ≤ R.cells ∧ slots + 0 ≤ R.slots)
    (hsize : ls.size = nL) (hst : st0 = As.reverse ++ rest) (hW : (rest.map fun v => v.category).sum ≤ 8) (hdg : decode cc pc = .ok (.invokestatic index, 3))
    (k : W p l e R s m args below meth c H locs cells slots Q (F0 m (pc + 3) ls rest)) : W p l e R s m args below meth c H locs cells slots Q (F0 m pc ls st0) := by
  have hG : GoodIn wa (wsS own index y (Cond.code y bytes maxL none :: wa)) := wg_cons hg h1 (wg_cons hg h2 (wg_cons hg h4 (wg_cons hg h5 hg)))
  exact gx_goV (W.runS (g := F0 m pc ls st0) (As := As) (rest := rest) S hM (cwS n S.2.2.2.2 hG rfl hrc.1 hrc.2 hd hR) preEq rfl hn hsize hst (lv_room hW) hdg hf) k
/-- a static method of another class that changes one array cell -/
theorem gx_cF {q0 : Nat} {f g : Nat → Int32} {cA : ClassId} {N : Nat} (S : CallFix p m c cc nL s args wa own) (hg : GoodIn wa wa) (hM : Met l y (Cond.code y bytes maxL none :: wa) rm (va_Pc As (gx_I D cl [(cA, .int)] [(a, .inl (cA, N, .inl f))])) (gx_Q D cl (fun q => q = a) [(a, .inl (cA, N, .inl f))] (fun v w' => v = none ∧ w' = [(a, .inl (cA, N, .inl g))])) 0 0 (fun q => q = a))
    (h1 : Cond.methodLink own index y ∈ wa) (h2 : Cond.static y ∈ wa) (h4 : Cond.initialized y.cls ∈ wa) (h5 : Cond.code y bytes maxL none ∈ wa)
    (hd : y.cls ≠ "java/lang/invoke/MethodHandle" ∧ y.cls ≠ "java/lang/invoke/VarHandle" ∧ (parseMethodDescriptor y.desc).map (fun d => d.parameters.length) = some n) (hn : As.length = n)
    (hrc : rm.cells = 0 ∧ rm.slots = 0) (hR : rm.frames + 1 ≤ R.frames ∧ 8 + (maxL + 11) + rm.locals ≤ R.locals) (hf : cells + 0 ≤ R.cells ∧ slots + 0 ≤ R.slots)
    (hK : va_K D cl tys s) (hP : va_P D cl w H) (hD : va_D A w) (hS : va_S A H0 H locs) (ha : w[q0]? = some (a, .inl (cA, N, .inl f))) (t0 : Nat) (ht : tys[t0]? = some (cA, .int))
    (hsize : ls.size = nL) (hst : st0 = As.reverse ++ rest) (hW : (rest.map fun v => v.category).sum ≤ 8) (hdg : decode cc pc = .ok (.invokestatic index, 3))
    (k : ∀ (H1 : Heap) (locs1 : List Loc), va_P D cl (w.set q0 (a, .inl (cA, N, .inl g))) H1 → va_D A (w.set q0 (a, .inl (cA, N, .inl g))) → va_S A H0 H1 locs1 → W p l e R s m args below meth c H1 locs1 cells slots Q (F0 m (pc + 3) ls rest)) :
    W p l e R s m args below meth c H locs cells slots Q (F0 m pc ls st0) := by
  have ok : ∀ w ∈ wa, w.before args s = true := S.2.2.2.2
  have hAa : A a := hD.2 q0 _ ha
  have hP1 : va_P D cl [(a, .inl (cA, N, .inl f))] H := by
    intro j q hj
    have hz : j < 1 := (List.getElem?_eq_some_iff.mp hj).1
    rw [show j = 0 by omega] at hj
    cases hj
    exact hP q0 _ ha
  have hD1 : va_D (fun _ => True) [(a, (.inl (cA, N, .inl f) : va_E))] := ⟨fun i j x y hi hj _ => by
    have := (List.getElem?_eq_some_iff.mp hi).1
    have := (List.getElem?_eq_some_iff.mp hj).1
    simp at *
    omega, fun _ _ _ => trivial⟩
  have hK1 : va_K D cl [(cA, .int)] s := ⟨hK.1, fun j q hj => by
    have hz : j < 1 := (List.getElem?_eq_some_iff.mp hj).1
    rw [show j = 0 by omega] at hj
    cases hj
    exact hK.2 t0 _ ht⟩
  have cw : CallB R s args own index y bytes maxL none (Cond.code y bytes maxL none :: wa) rm 0 0 n ∧ (Cond.static y).before args s = true :=
    ⟨callB_of n ok (wg_cons hg h5 hg) rfl hrc.1 hrc.2 (ok _ h4) (ok _ h1) hd hR, ok _ h2⟩
  have hr := W.runS (l := l) (e := e) (below := below) (meth := meth) (H := H) (locs := locs) (cells := cells) (slots := slots) (g := F0 m pc ls st0) (As := As) (rest := rest) S hM cw ⟨gx_blind, fun U hU hW => ⟨rfl, by rw [hU]; exact hP1, va_K.moved hW.alike hK1, hD1⟩⟩ rfl hn hsize hst (lv_room hW) hdg hf
  intro T hT X
  obtain ⟨v, st₀, t, T', L, h0, X', hL, e1, ⟨v', w', hv, ⟨rfl, rfl⟩, -, hP2, hz, hk⟩, st⟩ := hr T hT X
  cases hv
  rw [h0] at hz hk
  have hcell : T'.heap[a]? = some (vp_cell cA (N, .inl g)) := by rw [e1]; exact hP2 0 _ rfl
  have oq : ∀ q : Nat, q < H.size → q ≠ a → T'.heap[q]? = H[q]? := fun q hlt hq => by
    rw [e1]
    exact hk q hlt hq
  obtain ⟨t2, a1, b1⟩ := k T'.heap (locs ++ L) (gx_set hP hD ha hcell oq) (hD.set ha)
    ⟨Nat.le_trans hS.1 (by rw [e1]; exact hz), fun q g1 g2 => by rw [oq q (Nat.lt_of_lt_of_le g1 hS.1) (fun e => g2 (by rw [e]; exact hAa))]; exact hS.2.1 q g1 g2, fun q hq => by
      rcases List.mem_append.mp hq with h | h
      · exact hS.2.2 q h
      · have : q.base = a := hL q h
        rw [this]
        exact hAa⟩ T' rfl X'
  exact ⟨t2, st t2 a1, b1⟩
end GW
