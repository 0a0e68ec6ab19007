/-! the law: its rows -/
section LR
variable {p : Program} {l : Launch} {e : Env} {R : Room} {s : State} {m : MethodId} {args : Array Value} {below : List Frame} {meth : Method} {c : Code} {H : Heap} {locs : List Loc} {cells slots : Nat} {Q : State → Prop}
variable {cc : ByteArray} {pc nL : Nat} {ls : Array Slot} {rest st0 : List Value}
theorem hq_runS {y : MethodName} {bytes : ByteArray} {maxL index n mc ms : Nat} {hh : List (Nat × Nat × Nat × Nat)} {ret : Option FieldType} {rm : Room} {Pc : Array Value → State → Prop} {Qc : Array Value → State → Outcome → State → Prop} {free : Addr → Prop} {wa : List Cond} {own : String} {As : List Value}
    (S : CallFix p m c cc nL s args wa own) (hg : GoodIn wa wa) (hM : Met l y (Cond.codeWith y bytes maxL ret hh :: wa) rm Pc Qc mc ms free)
    (h1 : Cond.methodLink own index y ∈ wa) (h2 : Cond.static y ∈ wa) (h4 : Cond.initialized y.cls ∈ wa) (h5 : Cond.codeWith y bytes maxL ret hh ∈ wa)
    (hd : y.cls ≠ "java/lang/invoke/MethodHandle" ∧ y.cls ≠ "java/lang/invoke/VarHandle" ∧ (parseMethodDescriptor y.desc).map (fun d => d.parameters.length) = some n) (hn : As.length = n)
    (hrc : rm.cells = mc ∧ rm.slots = ms) (hR : rm.frames + 1 ≤ R.frames ∧ 8 + (maxL + 11) + rm.locals ≤ R.locals) (hf : cells + mc ≤ R.cells ∧ slots + ms ≤ R.slots) (hp : PreS s H Pc As)
    (hsize : ls.size = nL) (hst : st0 = As.reverse ++ rest) (hW : (rest.map fun v => v.category).sum ≤ 8) (hdg : decode cc pc = .ok (.invokestatic index, 3)) :
    CallRun p l e R s m args below meth c H locs cells slots mc ms (F0 m pc ls st0) rest (Qc As.toArray) free := by
  obtain ⟨hx, hb, hml, ho, ok⟩ := S
  have hG : GoodIn wa (Cond.codeWith y bytes maxL ret hh :: wa) := wg_cons hg h5 hg
  have hws : ∀ w ∈ (Cond.codeWith y bytes maxL ret hh :: wa), ∀ (a' : Array Value) (U : State), s.WarmedH U.vm → w.before a' U = true := pay_in ok hG
  intro T hT X
  obtain ⟨mk, methM, cM, hnamed, hmethM, -, -, -, -, -, -, hsigM⟩ := Cond.codeWith_spec (ok _ h5)
  have hstatic : methM.isStatic = true := Cond.static_spec hnamed hmethM (ok _ h2)
  obtain ⟨kP, hkP, -⟩ := className_of_methodNamed hnamed
  have hini := ok _ h4
  have hinitP : kP.init = .initialized := Cond.initialized_spec (findClass_of_methodNamed hnamed) hkP hini
  have hlen : As.length = methM.sig.parameters.length := by
    have h2 := hd.2.2
    rw [hsigM] at h2
    exact hn.trans (Option.some.inj h2).symm
  obtain ⟨vm₁, X₁, hstep₁⟩ := X.invokestatic hx ho (ok _ h1) hnamed hmethM hstatic hkP hinitP ⟨hd.1, hd.2.1⟩ (g := F0 m pc ls st0) rfl (argsL := As) (rest := rest) hlen hst (by rw [hb]; exact hdg)
  have hK : Back l R p e below s args y 3 8 (PreOf R mc ms Pc) (PostOf Qc mc ms free) := va_backW (hh := hh) (bytes := bytes) (maxL := maxL) (ret := ret) hM hp.1 hrc.1 hrc.2 hR.1 hR.2 hws List.mem_cons_self (fun a' U hW => word_at hW (Or.inl (by first | rfl | simp [Cond.onTables, Cond.keeps, Cond.steady])) hini)
  obtain ⟨v, ⟨U', l2, c2, s2⟩, X', ⟨g', mk', t, L, e1, e2, hq, z1, hL, z2, z3⟩, st⟩ := hK m meth c ⟨T.setVm vm₁, locs, cells, slots⟩ { F0 m pc ls st0 with stack := rest } (.invokestatic index) mk As.toArray X₁ rfl (hsize.trans hml.symm) (by rw [hb]; exact hdg) (lv_room hW) (X₁.named hnamed) ⟨hf.1, hf.2, hp.2 (T.setVm vm₁) hT X₁.warmed⟩
  dsimp only [Pt.U, Pt.locs, Pt.cells, Pt.slots] at X' e1 e2 z1 z2 z3 st
  subst z1; subst z2; subst z3
  exact ⟨v, (T.setVm vm₁).calling g' mk' As.toArray, t, U', L, hT, X', hL, e1, hq, fun target h => hstep₁ _ fun acts => by rw [doInvoke_state]; exact st.trans h⟩
end LR
theorem hq_Zm {l : Launch} {y : MethodName} {ws : List Cond} {rm : Room} {Pc : Array Value → State → Prop} {D : va_G} {hs : Nat → Nat} {cL : ClassId} {oa : Nat} {w : va_W} {Z Z' : Int32 → va_W → (Nat → Int64) → Prop} {mc ms : Nat} {free : Addr → Prop} (hM : Met l y ws rm Pc (hq_Q D hs cL oa w Z) mc ms free) (hz : ∀ k w' ov', Z k w' ov' → Z' k w' ov') : Met l y ws rm Pc (hq_Q D hs cL oa w Z') mc ms free := by
  intro p e h1 h2 h3 s m args below hf happ hP hK
  obtain ⟨n, o, a1, a2, a3, ⟨k, w', ov', q1, q2, q3⟩, L, hF, hL⟩ := hM p e h1 h2 h3 s m args below hf happ hP hK
  exact ⟨n, o, a1, a2, a3, ⟨k, w', ov', q1, hz _ _ _ q2, q3⟩, L, hF, hL⟩
theorem gx_Zm {l : Launch} {y : MethodName} {ws : List Cond} {rm : Room} {Pc : Array Value → State → Prop} {D : va_G} {cl : List vw_C} {w : va_W} {A : Nat → Prop} {Z Z' : Option Value → va_W → Prop} {mc ms : Nat} {free : Addr → Prop} (hM : Met l y ws rm Pc (gx_Q D cl A w Z) mc ms free) (hz : ∀ v w', Z v w' → Z' v w') : Met l y ws rm Pc (gx_Q D cl A w Z') mc ms free := by
  intro p e h1 h2 h3 s m args below hf happ hP hK
  obtain ⟨n, o, a1, a2, a3, ⟨v, w', q1, q2, q3⟩, L, hF, hL⟩ := hM p e h1 h2 h3 s m args below hf happ hP hK
  exact ⟨n, o, a1, a2, a3, ⟨v, w', q1, hz _ _ q2, q3⟩, L, hF, hL⟩
/-- the class's world and the reference's, of one state -/
def wG (ca : Nat → ClassId) (hs : Nat → Nat) (rt wd : Nat → Int32) (ob ln kd : Nat → Nat) (qt df : Nat → Bool) (cn : Nat) (w : va_W) : Prop := ∃ (mk : Nat → Bool) (fd : Nat → Nat) (fc : Nat), w = gw_G ca hs rt wd ob ln kd qt df mk fd fc (iv_c ob) cn
def wM (ca : Nat → ClassId) (gs : Nat → Nat) (rt wd : Nat → Int32) (ob ln kd : Nat → Nat) (qt df : Nat → Bool) (cn th : Nat) (w : va_W) : Prop := ∃ (mk : Nat → Bool) (gv : Nat), w = gw_M ca gs rt wd ob ln kd qt df mk th cn gv
/-- what stands from the law's entry -/
def lw_C (p : Program) (l : Launch) (s : State) (m : MethodId) (meth : Method) (c : Code) (b L : Nat) (xs : Nat → Int32) (D : va_G) (ca : Nat → ClassId) (hs : Nat → Nat) (ca2 : Nat → ClassId) (gs : Nat → Nat) (cL : ClassId) (oa : Nat) : Prop :=
  (p.tables.exec = Jvm.exec ∧ c.code = code ∧ meth.sig.returnType = ret ∧ c.maxLocals = 7 ∧ s.vm.findClass R_L = some m.cls ∧ (∀ w ∈ wa_all, w.before #[Value.ref b] s = true) ∧ va_X b L xs s s.heap ∧ b < s.heap.size ∧ meth.locks = false ∧ L ≤ 1536) ∧
  (gt_htr l ∧ xs_T s ∧ hq_N s) ∧ (va_K D cl_all (ty_G ca) s ∧ va_K D cl_all (ty_M ca2) s ∧ va_K D cl_all [(cL, .long)] s) ∧
  ((∀ k, k < 10 → s.heap.size ≤ hs k) ∧ (∀ k, k < 9 → s.heap.size ≤ gs k) ∧ s.heap.size ≤ oa ∧ (∀ i, i < 10 → ∀ j, j < 9 → hs i ≠ gs j) ∧ (∀ i, i < 10 → hs i ≠ oa) ∧ (∀ i, i < 9 → gs i ≠ oa) ∧ (∀ i, i < 10 → ∀ j, j < 10 → hs i = hs j → i = j) ∧ (∀ i, i < 9 → ∀ j, j < 9 → gs i = gs j → i = j))
def lw_A (s : State) : Nat → Prop := fun q => s.heap.size ≤ q
def lw_V (s : State) (D : va_G) (ca : Nat → ClassId) (hs : Nat → Nat) (ca2 : Nat → ClassId) (gs : Nat → Nat) (cL : ClassId) (oa : Nat) (H : Heap) (rt wd : Nat → Int32) (ob ln kd : Nat → Nat) (qt df : Nat → Bool) (cn : Nat) (w w2 : va_W) (th : Nat) (ov : Nat → Int64) : Prop :=
  wG ca hs rt wd ob ln kd qt df cn w ∧ wM ca2 gs rt wd ob ln kd qt df cn th w2 ∧ va_P D cl_all w H ∧ va_P D cl_all w2 H ∧ va_P D cl_all (hq_o oa cL ov) H ∧ va_S (lw_A s) s.heap H []
theorem wD_adr {A : Nat → Prop} {w : va_W} {f : Nat → Nat} {n : Nat} (ha : w.map (fun q => q.1) = (List.range n).map f) (hi : ∀ i, i < n → ∀ j, j < n → f i = f j → i = j) (hA : ∀ k, k < n → A (f k)) : va_D A w := by
  have key : ∀ (k : Nat) (q : Nat × va_E), w[k]? = some q → k < n ∧ q.1 = f k := by
    intro k q hk
    have h1 : (w.map (fun q => q.1))[k]? = some q.1 := by rw [List.getElem?_map, hk]; rfl
    rw [ha, List.getElem?_map] at h1
    by_cases hkn : k < n
    · rw [List.getElem?_range hkn] at h1
      exact ⟨hkn, (Option.some.inj h1).symm⟩
    · rw [List.getElem?_eq_none (by simp; omega)] at h1
      cases h1
  refine ⟨fun i j x y hx hy e => ?_, fun k q hk => ?_⟩
  · obtain ⟨a1, a2⟩ := key i x hx
    obtain ⟨b1, b2⟩ := key j y hy
    exact hi i a1 j b1 (by rw [← a2, ← b2]; exact e)
  · obtain ⟨a1, a2⟩ := key k q hk
    rw [a2]
    exact hA k a1
theorem wG_D {A : Nat → Prop} {ca : Nat → ClassId} {hs : Nat → Nat} {rt wd : Nat → Int32} {ob ln kd : Nat → Nat} {qt df mk : Nat → Bool} {fd : Nat → Nat} {fc oc cn : Nat} (hi : ∀ i, i < 10 → ∀ j, j < 10 → hs i = hs j → i = j) (hA : ∀ k, k < 10 → A (hs k)) : va_D A (gw_G ca hs rt wd ob ln kd qt df mk fd fc oc cn) := wD_adr (n := 10) gw_G_adr hi hA
theorem wM_D {A : Nat → Prop} {ca : Nat → ClassId} {hs : Nat → Nat} {rt wd : Nat → Int32} {ob ln kd : Nat → Nat} {qt df mk : Nat → Bool} {th cn gv : Nat} (hi : ∀ i, i < 9 → ∀ j, j < 9 → hs i = hs j → i = j) (hA : ∀ k, k < 9 → A (hs k)) : va_D A (gw_M ca hs rt wd ob ln kd qt df mk th cn gv) := wD_adr (n := 9) gw_M_adr hi hA
section LS
variable {p : Program} {l : Launch} {e : Env} {s : State} {m : MethodId} {below : List Frame} {meth : Method} {c : Code} {b L : Nat} {xs : Nat → Int32} {D : va_G} {ca : Nat → ClassId} {hs : Nat → Nat} {ca2 : Nat → ClassId} {gs : Nat → Nat} {cL : ClassId} {oa : Nat} {H : Heap} {cells slots : Nat} {Q : State → Prop} {pc : Nat} {ls : Array Slot} {rest st0 : List Value}
variable {rt wd : Nat → Int32} {ob ln kd : Nat → Nat} {qt df : Nat → Bool} {cn : Nat} {w w2 : va_W} {th : Nat} {ov : Nat → Int64}
/-- a helper is called -/
theorem lw_hcall {y : MethodName} {bytes : ByteArray} {maxL index n : Nat} {hh : List (Nat × Nat × Nat × Nat)} {As : List Value} {k : Int32} {Z : va_W → Prop} {Y : (Nat → Int64) → Prop} (C : lw_C p l s m meth c b L xs D ca hs ca2 gs cL oa) (V : lw_V s D ca hs ca2 gs cL oa H rt wd ob ln kd qt df cn w w2 th ov)
    (hM : Met l y (Cond.codeWith y bytes maxL (some .int) hh :: wa_all) rm_h (va_Pc As (hq_I D ca hs cL oa w ov)) (hq_Q D hs cL oa w (fun k' w' ov' => k' = k ∧ Z w' ∧ Y ov')) 1 6 (hq_A hs oa))
    (h1 : Cond.methodLink R_L index y ∈ wa_all) (h2 : Cond.static y ∈ wa_all) (h4 : Cond.initialized y.cls ∈ wa_all) (h5 : Cond.codeWith y bytes maxL (some .int) hh ∈ wa_all)
    (hd : y.cls ≠ "java/lang/invoke/MethodHandle" ∧ y.cls ≠ "java/lang/invoke/VarHandle" ∧ (parseMethodDescriptor y.desc).map (fun d => d.parameters.length) = some n) (hn : As.length = n) (hmx : maxL ≤ 10)
    (hf : cells + 1 ≤ room_1.cells ∧ slots + 6 ≤ room_1.slots) (hsize : ls.size = 7) (hst : st0 = As.reverse ++ rest) (hW : (rest.map fun v => v.category).sum ≤ 8) (hdg : decode code pc = .ok (.invokestatic index, 3))
    (kk : ∀ (H1 : Heap) (w' : va_W) (ov' : Nat → Int64), Z w' → va_P D cl_all w' H1 → va_P D cl_all w2 H1 → va_P D cl_all (hq_o oa cL ov') H1 → Y ov' → va_S (lw_A s) s.heap H1 [] → W p l e room_1 s m #[Value.ref b] below meth c H1 [] (cells + 1) (slots + 6) Q (F0 m (pc + 3) ls (.int k :: rest))) :
    W p l e room_1 s m #[Value.ref b] below meth c H [] cells slots Q (F0 m pc ls st0) := by
  obtain ⟨⟨hx, hb, hrt, hml, hown, ht, hX, hbl, hlk, hL⟩, ⟨htr, hT, hN⟩, ⟨hKG, hKM, hKo⟩, ⟨d1, d2, d3, d4, d5, d6, d7, d8⟩⟩ := C
  obtain ⟨⟨mk, fd, fc, rfl⟩, ⟨mk2, gv, rfl⟩, hP, hP2, hPo, hS⟩ := V
  have hxs : xs_H s.heap H := fun q cell hc _ => by
    have hq := (Array.getElem?_eq_some_iff.mp hc).1
    rw [hS.2.1 q hq (fun h => Nat.lt_irrefl _ (Nat.lt_of_lt_of_le hq h))]
    exact hc
  have hr := hq_runS (l := l) (e := e) (below := below) (meth := meth) (H := H) (locs := []) (cells := cells) (slots := slots) (R := room_1) (pc := pc) (ls := ls) (st0 := st0) (rest := rest) ⟨hx, hb, hml, hown, ht⟩ hg_all hM h1 h2 h4 h5 hd hn ⟨rfl, rfl⟩ ⟨by decide, Nat.le_trans (Nat.add_le_add_right (Nat.add_le_add_left (Nat.add_le_add_right hmx 11) 8) _) (by decide)⟩ hf
    ⟨hq_blind, fun U hU hW => ⟨rfl, ⟨by rw [hU]; exact hP, va_K.moved hW.alike hKG, wG_D d7 (fun _ _ => trivial)⟩, ⟨by rw [hU]; exact hPo, va_K.moved hW.alike hKo, ⟨fun i j x y hi hj _ => by
      have := (List.getElem?_eq_some_iff.mp hi).1
      have := (List.getElem?_eq_some_iff.mp hj).1
      simp [hq_o] at *
      omega, fun _ _ _ => trivial⟩⟩, d5, xs_moved hW (by rw [hU]; exact hxs) hT, va_Nc.moved hW.alike hN.1, va_Nc.moved hW.alike hN.2⟩⟩ hsize hst hW hdg
  intro T hT0 X
  obtain ⟨v, st₀, t, T', L', h0, X', hL', e1, ⟨k', w', ov', g1, ⟨rfl, g2, g3⟩, g4, g5, g6, g7⟩, st⟩ := hr T hT0 X
  cases g1
  unfold va_F at g7
  rw [h0] at g7
  have hbig : ∀ q, hq_A hs oa q → s.heap.size ≤ q := fun q hq => by
    rcases hq with ⟨j, hj, rfl⟩ | rfl
    · exact d1 j hj
    · exact d3
  have X2 := Stand.forget X' (fun q hq => hbig _ (hL' q hq))
  obtain ⟨t2, a1, b1⟩ := kk T'.heap w' ov' g2 (by rw [e1]; exact g5) (by
    rw [e1]
    refine hP2.kept (fun i q hi => g7.2 _ (va_lt hP2 i q hi) (fun h => ?_))
    obtain ⟨j, hj, ej⟩ := gw_M_in i q hi
    rcases h with ⟨j', hj', e'⟩ | e'
    · exact d4 j' hj' j hj (e'.symm.trans ej)
    · exact d6 j hj (ej.symm.trans e')) (by rw [e1]; exact g6) g3 ⟨Nat.le_trans hS.1 (by rw [e1]; exact g7.1), fun q q1 q2 => by rw [e1, g7.2 q (Nat.lt_of_lt_of_le q1 hS.1) (fun h => q2 (hbig q h))]; exact hS.2.1 q q1 q2, fun q hq => by cases hq⟩ T' rfl X2
  exact ⟨t2, st t2 a1, b1⟩
/-- a method of the reference is called -/
theorem lw_mcall {y : MethodName} {bytes : ByteArray} {maxL index n : Nat} {ret' : Option FieldType} {rm : Room} {As : List Value} {Z : Option Value → va_W → Prop} (C : lw_C p l s m meth c b L xs D ca hs ca2 gs cL oa) (hG : wG ca hs rt wd ob ln kd qt df cn w) (hMw : ∃ rt0 wd0 ob0 ln0 kd0 qt0 df0 cn0 th0, wM ca2 gs rt0 wd0 ob0 ln0 kd0 qt0 df0 cn0 th0 w2) (hP : va_P D cl_all w H) (hP2 : va_P D cl_all w2 H) (hPo : va_P D cl_all (hq_o oa cL ov) H) (hS : va_S (lw_A s) s.heap H [])
    (hM : Met l y (Cond.code y bytes maxL ret' :: wa_all) rm (va_Pc (.ref (gs 0) :: As) (gx_I D cl_all (ty_M ca2) w2)) (gx_Q D cl_all (gx_A gs 9) w2 Z) 0 0 (gx_A gs 9))
    (h1 : Cond.methodLink R_L index y ∈ wa_all) (h2 : Cond.instanceMethod y ∈ wa_all) (h3 : Cond.selects R_M y y ∈ wa_all) (h4 : Cond.initialized R_M ∈ wa_all) (h5 : Cond.code y bytes maxL ret' ∈ wa_all)
    (hd : y.cls = R_M ∧ y.cls ≠ "java/lang/invoke/MethodHandle" ∧ y.cls ≠ "java/lang/invoke/VarHandle" ∧ (parseMethodDescriptor y.desc).map (fun d => d.parameters.length) = some n) (hn : As.length = n)
    (hrc : rm.cells = 0 ∧ rm.slots = 0) (hR : rm.frames + 1 ≤ room_1.frames ∧ 8 + (maxL + 11) + rm.locals ≤ room_1.locals) (hf : cells + 0 ≤ room_1.cells ∧ slots + 0 ≤ room_1.slots)
    (hsize : ls.size = 7) (hst : st0 = As.reverse ++ .ref (gs 0) :: rest) (hW : (rest.map fun v => v.category).sum ≤ 8) (hdg : decode code pc = .ok (.invokevirtual index, 3))
    (kk : ∀ (v : Option Value) (H1 : Heap) (w2' : va_W), Z v w2' → va_P D cl_all w H1 → va_P D cl_all w2' H1 → va_P D cl_all (hq_o oa cL ov) H1 → va_S (lw_A s) s.heap H1 [] → W p l e room_1 s m #[Value.ref b] below meth c H1 [] cells slots Q (F0 m (pc + 3) ls (v.toList ++ rest))) :
    W p l e room_1 s m #[Value.ref b] below meth c H [] cells slots Q (F0 m pc ls st0) := by
  obtain ⟨⟨hx, hb, hrt, hml, hown, ht, hX, hbl, hlk, hL⟩, ⟨htr, hT, hN⟩, ⟨hKG, hKM, hKo⟩, ⟨d1, d2, d3, d4, d5, d6, d7, d8⟩⟩ := C
  obtain ⟨mk, fd, fc, rfl⟩ := hG
  obtain ⟨rt0, wd0, ob0, ln0, kd0, qt0, df0, cn0, th0, mk2, gv, rfl⟩ := hMw
  refine gx_cM (q0 := 0) (ci := 1) (q := (R_M, F_M, 11)) (A := lw_A s) (H0 := s.heap) ⟨hx, hb, hml, hown, ht⟩ hg_all hM h1 h2 h3 h4 h5 hd hn hrc hR hf hKM hP2 (wM_D d8 (fun k hk => d2 k hk)) hS (fun q hq => by obtain ⟨j, hj, rfl⟩ := hq; exact d2 j hj) rfl rfl rfl hsize hst hW hdg (fun v w2' H1 locs1 hZ hP2' hD2' hS1 g1 g2 => ?_)
  refine va_forget hS1.2.2 ?_
  refine kk v H1 w2' hZ (hP.kept (fun i q hi => g2 _ (va_lt hP i q hi) (fun h => ?_))) hP2' (hPo.kept (fun i q hi => g2 _ (va_lt hPo i q hi) (fun h => ?_))) ⟨hS1.1, hS1.2.1, fun q hq => by cases hq⟩
  · obtain ⟨j, hj, ej⟩ := gw_G_in i q hi
    obtain ⟨j', hj', e'⟩ := h
    exact d4 j hj j' hj' (ej.symm.trans e')
  · have hz : i < 1 := (List.getElem?_eq_some_iff.mp hi).1
    rw [show i = 0 by omega] at hi
    cases hi
    obtain ⟨j', hj', e'⟩ := h
    exact d6 j' hj' e'.symm
end LS
