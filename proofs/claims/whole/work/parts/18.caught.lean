/-! a callee throws, and the caller catches -/
section XG
variable {p : Program} {l : Launch} {e : Env} {R : Room} {s : State} {m : MethodId} {args : Array Value} {below : List Frame} {meth : Method} {c : Code} {H : Heap} {locs : List Loc} {cells slots : Nat} {Q : State → Prop}
def xg_tb (c : Code) (hh : List (Nat × Nat × Nat × Nat)) : Prop := c.exceptionTable.toList.map (fun h => (h.startPc, h.endPc, h.handlerPc, h.catchType)) = hh
/-- what is thrown -/
def xg_X (Qa : State → Outcome → State → Prop) (X : String) : Prop := ∀ (x : Addr) (st₀ t : State), Qa st₀ (.threw x) t → ∃ cell, t.heap[x]? = some cell ∧ cell.vm = .none ∧ t.vm.findClass X = some cell.cls
theorem xg_note {T : State} (X : Stand p l e R s m args below meth c T locs cells slots) {own name : String} {index : Nat} (hown : s.vm.findClass own = some m.cls) (hlink : (Cond.classLink own index name).before args s = true) :
    ∃ (cT : ClassId) (vm' : Vm), s.vm.findClass name = some cT ∧ (Jvm.resolveClass m.cls index).Gives e.toSetting T.vm (.ok cT) vm' ∧ vm'.classes.size ≤ T.vm.classes.size ∧ s.WarmedH vm' ∧ (∃ k, vm'.classes[cT]? = some k) ∧ Stand p l e R s m args below meth c (T.setVm vm') locs cells slots := by
  have hpl : e.platform.magicAccessors = ({} : Platform).magicAccessors := by rw [X.admits.platform]
  obtain ⟨c', hc', hcl⟩ := Cond.classLink_spec hown hlink e.platform hpl
  obtain ⟨dk, _, _, kt, hd, _, _, _, _, hkt, _, hopen⟩ := hcl.here
  have hcl₀ := X.warmed.classLinks hcl
  have hW' : s.WarmedH (T.vm.noted m.cls index (.cls c')) := X.warmed.noted hd hopen (State.rightAt_cls hcl)
  obtain ⟨kt', hkt', -⟩ := hW'.alike.2.2 _ _ hkt
  exact ⟨c', _, hc', resolveClass_links e.toSetting hcl₀, Nat.le_of_eq (Vm.size_noted _ _ _ _), hW', ⟨kt', hkt'⟩, X.noted hW'⟩
theorem xg_catch1 {mc ms pc s0 e0 hp ct : Nat} {ls : Array Slot} {st0 rest : List Value} {Qa : State → Outcome → State → Prop} {free : Addr → Prop} {X own : String} {tl : List (Nat × Nat × Nat × Nat)} (hr : xt_Run p l e R s m args below meth c H locs cells slots mc ms (F0 m pc ls st0) rest Qa free) (hX : xg_X Qa X)
    (hown : s.vm.findClass own = some m.cls) (hlink : (Cond.classLink own ct X).before args s = true) (htb : xg_tb c ((s0, e0, hp, ct) :: tl)) (hcov : s0 ≤ pc ∧ pc < e0) (hct : ct ≠ 0)
    (kk : ∀ (x : Addr) (st₀ t : State) (L : List Loc), st₀.heap = H → Qa st₀ (.threw x) t → s.vm.Alike t.vm → (∀ q ∈ L, free q.base) → W p l e R s m args below meth c t.heap (locs ++ L) (cells + mc) (slots + ms) Q (F0 m hp ls [.ref x])) :
    W p l e R s m args below meth c H locs cells slots Q (F0 m pc ls st0) := by
  intro T hT X0
  obtain ⟨x, st₀, t, T', L, h0, X', hL, e1, e2, hqa, st⟩ := hr T hT X0
  obtain ⟨cell, g1, g2, g3⟩ := hX x st₀ t hqa
  obtain ⟨cT, vm', f1, f2, f3, f4, f5, X2⟩ := xg_note X' hown hlink
  have hA : s.vm.Alike t.vm := by rw [← e2]; exact X'.warmed.alike
  rw [hA.findClass] at g3
  cases f1.symm.trans g3
  cases htl : c.exceptionTable.toList with
  | nil =>
    unfold xg_tb at htb
    rw [htl] at htb
    cases htb
  | cons y ys =>
    unfold xg_tb at htb
    rw [htl] at htb
    simp only [List.map_cons, List.cons.injEq, Prod.mk.injEq] at htb
    obtain ⟨⟨y1, y2, y3, y4⟩, -⟩ := htb
    have hfind : xf_F e ((T'.setTop (F0 m pc ls rest)).pushFrame (.throwing x)) (F0 m pc ls rest) x (.found hp) vm' := by
      intro Q' E' d acts
      rw [W.findHandler_eq (meth := meth) (code := c) X'.method' X'.code, htl, xf_go (s := (T'.setTop (F0 m pc ls rest)).pushFrame (.throwing x)) (f := F0 m pc ls rest) (x := y) (c := cell.cls) (cell := cell) (vm' := vm') (by
        unfold covers
        rw [y1, y2]
        simp only [Bool.and_eq_true, decide_eq_true_eq]
        exact hcov) (by rw [y4]; exact hct) (by rw [y4]; exact f2) f3 (by
          show T'.heap[x]? = some cell
          rw [e1]
          exact g1) (fun k h => by rw [g2] at h; cases h) f5 f5, if_pos (va_asg _ _), y3]
    obtain ⟨t2, a1, b1⟩ := kk x st₀ t L h0 hqa hA hL (T'.setVm vm') e1 X2
    exact ⟨t2, st.trans (xf_caught (g := F0 m pc ls rest) X'.here hfind a1), b1⟩
theorem xg_catch2 {mc ms pc s0 e0 h1 k1 hp ct : Nat} {ls : Array Slot} {st0 rest : List Value} {Qa : State → Outcome → State → Prop} {free : Addr → Prop} {X Y own : String} {tl : List (Nat × Nat × Nat × Nat)} (hr : xt_Run p l e R s m args below meth c H locs cells slots mc ms (F0 m pc ls st0) rest Qa free) (hX : xg_X Qa X) (hN : va_Nc X Y s)
    (hown : s.vm.findClass own = some m.cls) (hlink1 : (Cond.classLink own k1 Y).before args s = true) (hlink : (Cond.classLink own ct X).before args s = true) (htb : xg_tb c ((s0, e0, h1, k1) :: (s0, e0, hp, ct) :: tl)) (hcov : s0 ≤ pc ∧ pc < e0) (hk1 : k1 ≠ 0) (hct : ct ≠ 0)
    (kk : ∀ (x : Addr) (st₀ t : State) (L : List Loc), st₀.heap = H → Qa st₀ (.threw x) t → s.vm.Alike t.vm → (∀ q ∈ L, free q.base) → W p l e R s m args below meth c t.heap (locs ++ L) (cells + mc) (slots + ms) Q (F0 m hp ls [.ref x])) :
    W p l e R s m args below meth c H locs cells slots Q (F0 m pc ls st0) := by
  intro T hT X0
  obtain ⟨x, st₀, t, T', L, h0, X', hL, e1, e2, hqa, st⟩ := hr T hT X0
  obtain ⟨cell, g1, g2, g3⟩ := hX x st₀ t hqa
  have hA : s.vm.Alike t.vm := by rw [← e2]; exact X'.warmed.alike
  rw [hA.findClass] at g3
  obtain ⟨cN, tN, n1, n2, n3⟩ := hN
  cases n1.symm.trans g3
  obtain ⟨cY, vm1, d1, d2, d3, d4, d5, X1⟩ := xg_note X' hown hlink1
  cases n2.symm.trans d1
  obtain ⟨cT, vm', f1, f2, f3, f4, f5, X2⟩ := xg_note X1 hown hlink
  cases f1.symm.trans g3
  obtain ⟨ks, hks, -⟩ := Vm.findClass_spec g3
  obtain ⟨ks1, hks1, -⟩ := d4.alike.2.2 _ _ hks
  cases htl : c.exceptionTable.toList with
  | nil =>
    unfold xg_tb at htb
    rw [htl] at htb
    cases htb
  | cons y ys =>
    unfold xg_tb at htb
    rw [htl] at htb
    cases ys with
    | nil => cases htb
    | cons z zs =>
      simp only [List.map_cons, List.cons.injEq, Prod.mk.injEq] at htb
      obtain ⟨⟨y1, y2, y3, y4⟩, ⟨z1, z2, z3, z4⟩, -⟩ := htb
      have hc1 : T'.heap[x]? = some cell := by
        rw [e1]
        exact g1
      have hfind : xf_F e ((T'.setTop (F0 m pc ls rest)).pushFrame (.throwing x)) (F0 m pc ls rest) x (.found hp) vm' := by
        intro Q' E' d acts
        rw [W.findHandler_eq (meth := meth) (code := c) X'.method' X'.code, htl, xf_go (s := (T'.setTop (F0 m pc ls rest)).pushFrame (.throwing x)) (f := F0 m pc ls rest) (x := y) (c := tN) (cell := cell) (vm' := vm1) (by
          unfold covers
          rw [y1, y2]
          simp only [Bool.and_eq_true, decide_eq_true_eq]
          exact hcov) (by rw [y4]; exact hk1) (by rw [y4]; exact d2) d3 hc1 (fun k h => by rw [g2] at h; cases h) ⟨ks1, hks1⟩ d5, if_neg (by rw [d4.alike.assignable, n3]; decide),
          xf_go (s := ((T'.setTop (F0 m pc ls rest)).pushFrame (.throwing x)).setVm vm1) (f := F0 m pc ls rest) (x := z) (c := cell.cls) (cell := cell) (vm' := vm') (by
          unfold covers
          rw [z1, z2]
          simp only [Bool.and_eq_true, decide_eq_true_eq]
          exact hcov) (by rw [z4]; exact hct) (by rw [z4]; exact f2) f3 hc1 (fun k h => by rw [g2] at h; cases h) f5 f5, if_pos (va_asg _ _), z3]
        rfl
      obtain ⟨t2, a1, b1⟩ := kk x st₀ t L h0 hqa hA hL ((T'.setVm vm1).setVm vm') e1 X2
      exact ⟨t2, st.trans (xf_caught (g := F0 m pc ls rest) X'.here hfind a1), b1⟩
end XG
