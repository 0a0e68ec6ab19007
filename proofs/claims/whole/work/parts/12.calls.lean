/-! calls over one list of words that serves every method -/
def wg_ok (w : Cond) : Bool := (w.onTables && w.keeps) || (match w with | .arrayClass _ => true | _ => false)
theorem wg_sp {w : Cond} (h : wg_ok w = true) : (w.onTables && w.keeps) = true ∨ ∃ ty, w = .arrayClass ty := by
  unfold wg_ok at h
  cases hk : (w.onTables && w.keeps) with
  | true => exact Or.inl rfl
  | false =>
    rw [hk] at h
    cases w <;> simp at h
    exact Or.inr ⟨_, rfl⟩
theorem wg_all {wa : List Cond} (h : wa.all wg_ok = true) : GoodIn wa wa := fun w hw => ⟨hw, wg_sp (List.all_eq_true.mp h w hw)⟩
theorem wg_cons {wa : List Cond} (hg : GoodIn wa wa) {x : Cond} (hx : x ∈ wa) {ws : List Cond} (h : GoodIn wa ws) : GoodIn wa (x :: ws) := fun w hw => by
  rcases List.mem_cons.mp hw with rfl | h1
  · exact hg _ hx
  · exact h w h1
section GZ
variable {p : Program} {l : Launch} {e : Env} {R : Room} {s : State} {m : MethodId} {args : Array Value} {below : List Frame} {meth : Method} {c : Code} {H : Heap} {locs : List Loc} {cells slots : Nat} {Q : State → Prop}
variable {cc : ByteArray} {pc nL : Nat} {ls : Array Slot} {rest st0 : List Value} {D : va_G} {cl : List vw_C} {A : Nat → Prop} {a : Nat} {tys : List (ClassId × FieldType)} {w : va_W} {H0 : Heap} {Z : Option Value → va_W → Prop}
variable {wa : List Cond} {y : MethodName} {bytes : ByteArray} {maxL index n : Nat} {ret : Option FieldType} {own C : String} {rm : Room} {b : Addr} {As : List Value} {r : Int32}
/-- an instance method that reads -/
theorem gx_cV {q0 ci : Nat} {q : vw_C} {fs : List Value} (S : CallFix p m c cc nL s args wa own) (hg : GoodIn wa wa) (hM : Met l y (Cond.code y bytes maxL ret :: wa) rm (va_Pc (.ref b :: As) (gx_I D cl tys w)) (QcRead r) 0 0 (fun _ => False))
    (h1 : Cond.methodLink own index y ∈ wa) (h2 : Cond.instanceMethod y ∈ wa) (h3 : Cond.selects C y y ∈ wa) (h4 : Cond.initialized C ∈ wa) (h5 : Cond.code y bytes maxL ret ∈ wa)
    (hd : y.cls = C ∧ y.cls ≠ "java/lang/invoke/MethodHandle" ∧ y.cls ≠ "java/lang/invoke/VarHandle" ∧ (parseMethodDescriptor y.desc).map (fun d => d.parameters.length) = some n) (hn : As.length = n)
    (hrc : rm.cells = 0 ∧ rm.slots = 0) (hR : rm.frames + 1 ≤ R.frames ∧ 8 + (maxL + 11) + rm.locals ≤ R.locals) (hf : cells + 0 ≤ R.cells ∧ slots + 0 ≤ R.slots)
    (hK : va_K D cl tys s) (hP : va_P D cl w H) (hD : va_D A w) (hc : cl[ci]? = some q) (hq : q.1 = C) (he : w[q0]? = some (b, .inr (ci, fs)))
    (hsize : ls.size = nL) (hst : st0 = As.reverse ++ .ref b :: rest) (hW : (rest.map fun v => v.category).sum ≤ 8) (hdg : decode cc pc = .ok (.invokevirtual index, 3))
    (k : W p l e R s m args below meth c H locs cells slots Q (F0 m (pc + 3) ls (.int r :: rest))) : W p l e R s m args below meth c H locs cells slots Q (F0 m pc ls st0) := by
  have hG : GoodIn wa (wsV own index C y (Cond.code y bytes maxL ret :: wa)) := wg_cons hg h1 (wg_cons hg h2 (wg_cons hg h3 (wg_cons hg h4 (wg_cons hg h5 hg))))
  refine W.callR (W.runV (C := C) (g := F0 m pc ls st0) (As := As) (rest := rest) S hM (cwV n S.2.2.2.2 hG rfl hrc.1 hrc.2 hd hR) ⟨gx_blind, ?_, fun U hU hW => ⟨rfl, by rw [hU]; exact hP, va_K.moved hW.alike hK, hD.weaken (fun _ _ _ _ => trivial)⟩⟩ rfl hn hsize hst (lv_room hW) hdg hf) k
  subst hq
  exact va_recv hK hP hc he
/-- a static method that reads nothing -/
theorem gx_cS (S : CallFix p m c cc nL s args wa own) (hg : GoodIn wa wa) (hM : Met l y (Cond.code y bytes maxL ret :: wa) rm (fun v _ => v = As.toArray) (QcRead r) 0 0 (fun _ => False))
    (h1 : Cond.methodLink own index y ∈ wa) (h2 : Cond.static y ∈ wa) (h4 : Cond.initialized own ∈ wa) (h5 : Cond.code y bytes maxL ret ∈ wa)
    (hd : y.cls = own ∧ y.cls ≠ "java/lang/invoke/MethodHandle" ∧ y.cls ≠ "java/lang/invoke/VarHandle" ∧ (parseMethodDescriptor y.desc).map (fun d => d.parameters.length) = some n) (hn : As.length = n)
    (hrc : rm.cells = 0 ∧ rm.slots = 0) (hR : rm.frames + 1 ≤ R.frames ∧ 8 + (maxL + 11) + rm.locals ≤ R.locals) (hf : cells + 0 ≤ R.cells ∧ slots + 0 ≤ R.slots)
    (hsize : ls.size = nL) (hst : st0 = As.reverse ++ rest) (hW : (rest.map fun v => v.category).sum ≤ 8) (hdg : decode cc pc = .ok (.invokestatic index, 3))
    (k : W p l e R s m args below meth c H locs cells slots Q (F0 m (pc + 3) ls (.int r :: rest))) : W p l e R s m args below meth c H locs cells slots Q (F0 m pc ls st0) := by
  have hG : GoodIn wa (wsS own index y (Cond.code y bytes maxL ret :: wa)) := wg_cons hg h1 (wg_cons hg h2 (wg_cons hg h4 (wg_cons hg h5 hg)))
  exact W.callR (W.runS (g := F0 m pc ls st0) (As := As) (rest := rest) S hM (cwS n S.2.2.2.2 hG rfl hrc.1 hrc.2 hd hR) preEq rfl hn hsize hst (lv_room hW) hdg hf) k
/-- an instance method that changes its world -/
theorem gx_cM {q0 ci mc ms : Nat} {q : vw_C} {fs : List Value} {A1 : Nat → Prop} (S : CallFix p m c cc nL s args wa own) (hg : GoodIn wa wa) (hM : Met l y (Cond.code y bytes maxL ret :: wa) rm (va_Pc (.ref b :: As) (gx_I D cl tys w)) (gx_Q D cl A1 w Z) mc ms A1)
    (h1 : Cond.methodLink own index y ∈ wa) (h2 : Cond.instanceMethod y ∈ wa) (h3 : Cond.selects C y y ∈ wa) (h4 : Cond.initialized C ∈ wa) (h5 : Cond.code y bytes maxL ret ∈ wa)
    (hd : y.cls = C ∧ y.cls ≠ "java/lang/invoke/MethodHandle" ∧ y.cls ≠ "java/lang/invoke/VarHandle" ∧ (parseMethodDescriptor y.desc).map (fun d => d.parameters.length) = some n) (hn : As.length = n)
    (hrc : rm.cells = mc ∧ rm.slots = ms) (hR : rm.frames + 1 ≤ R.frames ∧ 8 + (maxL + 11) + rm.locals ≤ R.locals) (hf : cells + mc ≤ R.cells ∧ slots + ms ≤ R.slots)
    (hK : va_K D cl tys s) (hP : va_P D cl w H) (hD : va_D A w) (hS : va_S A H0 H locs) (hA : ∀ q, A1 q → A q) (hc : cl[ci]? = some q) (hq : q.1 = C) (he : w[q0]? = some (b, .inr (ci, fs)))
    (hsize : ls.size = nL) (hst : st0 = As.reverse ++ .ref b :: rest) (hW : (rest.map fun v => v.category).sum ≤ 8) (hdg : decode cc pc = .ok (.invokevirtual index, 3))
    (k : ∀ (v : Option Value) (w' : va_W) (H1 : Heap) (locs1 : List Loc), Z v w' → va_P D cl w' H1 → va_D A w' → va_S A H0 H1 locs1 → H.size ≤ H1.size → (∀ q : Nat, q < H.size → ¬ A1 q → H1[q]? = H[q]?) → W p l e R s m args below meth c H1 locs1 (cells + mc) (slots + ms) Q (F0 m (pc + 3) ls (v.toList ++ rest))) :
    W p l e R s m args below meth c H locs cells slots Q (F0 m pc ls st0) := by
  have hG : GoodIn wa (wsV own index C y (Cond.code y bytes maxL ret :: wa)) := wg_cons hg h1 (wg_cons hg h2 (wg_cons hg h3 (wg_cons hg h4 (wg_cons hg h5 hg))))
  refine gx_go (W.runV (C := C) (g := F0 m pc ls st0) (As := As) (rest := rest) S hM (cwV n S.2.2.2.2 hG rfl hrc.1 hrc.2 hd hR) ⟨gx_blind, ?_, fun U hU hW => ⟨rfl, by rw [hU]; exact hP, va_K.moved hW.alike hK, hD.weaken (fun _ _ _ _ => trivial)⟩⟩ rfl hn hsize hst (lv_room hW) hdg hf) hD hS hA k
  subst hq
  exact va_recv hK hP hc he
end GZ
