/-! the law's helpers -/
def rm_h : Room := { frames := 14, cells := 1, slots := 6, locals := 500 }
def hq_A (hs : Nat → Nat) (oa : Nat) : Nat → Prop := fun q => gx_A hs 10 q ∨ q = oa
def hq_o (oa : Nat) (cL : ClassId) (ov : Nat → Int64) : va_W := [(oa, .inl (cL, 1, .inr (.inl ov)))]
def hq_N (U : State) : Prop := va_Nc X_ISE X_IAE U ∧ va_Nc X_ISE X_IOOBE U
def hq_I (D : va_G) (ca : Nat → ClassId) (hs : Nat → Nat) (cL : ClassId) (oa : Nat) (w : va_W) (ov : Nat → Int64) (U : State) : Prop := gx_I D cl_all (ty_G ca) w U ∧ gx_I D cl_all [(cL, .long)] (hq_o oa cL ov) U ∧ (∀ k, k < 10 → hs k ≠ oa) ∧ xs_T U ∧ hq_N U
def hq_Q (D : va_G) (hs : Nat → Nat) (cL : ClassId) (oa : Nat) (w : va_W) (Z : Int32 → va_W → (Nat → Int64) → Prop) : Array Value → State → Outcome → State → Prop := fun _ st o t =>
  ∃ (k : Int32) (w' : va_W) (ov' : Nat → Int64), o = .returned (some (.int k)) ∧ Z k w' ov' ∧ w'.map (fun q => q.1) = w.map (fun q => q.1) ∧ va_P D cl_all w' t.heap ∧ va_P D cl_all (hq_o oa cL ov') t.heap ∧ va_F (hq_A hs oa) st t
theorem hq_blind {av : List Value} {D : va_G} {ca : Nat → ClassId} {hs : Nat → Nat} {cL : ClassId} {oa : Nat} {w : va_W} {ov : Nat → Int64} : FrameBlind (va_Pc av (hq_I D ca hs cL oa w ov)) :=
  fun _ U g mk q => ⟨q.1, (gx_blind (av := av) _ U g mk ⟨q.1, q.2.1⟩).2, (gx_blind (av := av) _ U g mk ⟨q.1, q.2.2.1⟩).2, q.2.2.2.1, (xs_blind (av := av) _ U g mk ⟨q.1, q.2.2.2.2.1⟩).2, va_Nc.moved (u := U) (U := U.calling g mk _) (Vm.Alike.refl U.vm) q.2.2.2.2.2.1, va_Nc.moved (u := U) (U := U.calling g mk _) (Vm.Alike.refl U.vm) q.2.2.2.2.2.2⟩
theorem hq_rd {l : Launch} {y : MethodName} {ws : List Cond} {rm : Room} {av : List Value} {D : va_G} {cl : List vw_C} {tys : List (ClassId × FieldType)} {w : va_W} {r : Int32} {A : Nat → Prop} (hM : Met l y ws rm (va_Pc av (gx_I D cl tys w)) (QcRead r) 0 0 (fun _ => False)) : Met l y ws rm (va_Pc av (gx_I D cl tys w)) (gx_Q D cl A w (fun v w' => v = some (.int r) ∧ w' = w)) 0 0 A := by
  intro p e h1 h2 h3 s m args below hf happ hP hK
  obtain ⟨n, o, a1, a2, a3, ⟨hq1, hq2⟩, L, hF, hL⟩ := hM p e h1 h2 h3 s m args below hf happ hP hK
  exact ⟨n, o, a1, a2, a3, ⟨some (.int r), w, hq1, ⟨rfl, rfl⟩, rfl, by rw [hq2]; exact hP.2.1, by rw [hq2]; exact Nat.le_refl _, fun q _ _ => by rw [hq2]⟩, L, hF, fun q hq => (hL q hq).elim⟩
theorem hq_in {hs : Nat → Nat} {oa : Nat} {w w' : va_W} (hw : ∀ (k : Nat) (q : Nat × va_E), w[k]? = some q → gx_A hs 10 q.1) (ha : w'.map (fun q => q.1) = w.map (fun q => q.1)) (hne : ∀ k, k < 10 → hs k ≠ oa) : ∀ (k : Nat) (q : Nat × va_E), w'[k]? = some q → q.1 ≠ oa := by
  intro k q hk
  have h1 : (w'.map (fun q => q.1))[k]? = some q.1 := by rw [List.getElem?_map, hk]; rfl
  rw [ha, List.getElem?_map] at h1
  cases h2 : w[k]? with
  | none => rw [h2] at h1; cases h1
  | some q' =>
    rw [h2] at h1
    obtain ⟨j, hj, e⟩ := hw k q' h2
    have e2 : q'.1 = q.1 := Option.some.inj h1
    rw [← e2, e]
    exact hne j hj
section HQ
variable {l : Launch}
theorem hq_met {y : MethodName} {ws' : List Cond} {rm : Room} {cc : ByteArray} {maxL : Nat} {hh : List (Nat × Nat × Nat × Nat)} {av : List Value} {I : State → Prop} {Qc : Array Value → State → Outcome → State → Prop} {mc ms : Nat} {free : Addr → Prop}
    (hy : plainName y.cls = true) (hlen : (lg_sl av).length ≤ maxL)
    (body : ∀ (p : Program) (e : Env) (s : State) (m : MethodId) (args : Array Value) (below : List Frame) (meth : Method) (c : Code) (ls : Array Slot), p.tables.exec = Jvm.exec → c.code = cc → c.maxLocals = maxL →
      (∀ w ∈ ws', w.before args s = true) → s.vm.findClass y.cls = some m.cls → xg_tb c hh → meth.locks = false → meth.sig.returnType = some .int → I s → lv_has ls maxL (lv_args 0 av) →
      W p l e rm s m args below meth c s.heap [] 0 0 (MQ below Qc args s mc ms free) (F0 m 0 ls [])) :
    Met l y (Cond.codeWith y cc maxL (some .int) hh :: ws') rm (va_Pc av I) Qc mc ms free := by
  refine va_MetW (cc := cc) (maxL := maxL) (ret := some .int) (hh := hh) hy rfl ?_
  intro p e s m args below meth c s₁ B hml hv
  obtain ⟨rfl, hI⟩ := hv
  have hl := lv_entry av (n := maxL) hlen
  rw [lg_entry_eq]
  obtain ⟨m9, meth9, c9, n1, n2, n3, n4, n5, n6, -⟩ := Cond.codeWith_spec (atoms_spec (ws := Cond.codeWith y cc maxL (some .int) hh :: ws') B.pre _ List.mem_cons_self)
  cases B.named.symm.trans n1
  cases B.method.symm.trans n2
  cases (Stand.of_body B).code.symm.trans n3
  exact body p e s m _ below meth c _ B.exec B.bytes hml (fun w h => atoms_spec (ws := Cond.codeWith y cc maxL (some .int) hh :: ws') B.pre w (List.mem_cons_of_mem _ h)) (findClass_of_methodNamed B.named) n6 B.notSynchronized B.returns hI hl
end HQ
section HR
variable {p : Program} {l : Launch} {e : Env} {R : Room} {s : State} {m : MethodId} {args : Array Value} {below : List Frame} {meth : Method} {c : Code} {H : Heap} {locs : List Loc} {cells slots : Nat} {Q : State → Prop}
theorem hq_last {cc : ByteArray} {pc : Nat} {ls : Array Slot} {rest : List Value} {D : va_G} {A : Nat → Prop} {w : va_W} {H0 : Heap} {oa : Nat} {cL : ClassId} {ov : Nat → Int64} {x : Int64} (hx : p.tables.exec = Jvm.exec) (hb : c.code = cc) (hK : va_K D cl_all [(cL, .long)] s) (hPo : va_P D cl_all (hq_o oa cL ov) H) (hP : va_P D cl_all w H) (hne : ∀ (k : Nat) (q : Nat × va_E), w[k]? = some q → q.1 ≠ oa) (hS : va_S A H0 H locs) (hA : A oa) (hdg : decode cc pc = .ok (.lastore, 1))
    (kk : ∀ (H1 : Heap) (locs1 : List Loc), va_P D cl_all (hq_o oa cL (vp_updL ov 0 x)) H1 → va_P D cl_all w H1 → va_S A H0 H1 locs1 → W p l e R s m args below meth c H1 locs1 cells slots Q (F0 m (pc + 1) ls rest)) :
    W p l e R s m args below meth c H locs cells slots Q (F0 m pc ls (.long x :: .int 0 :: .ref oa :: rest)) := by
  have hc : H[oa]? = some (vp_cell cL (1, .inr (.inl ov))) := hPo 0 _ rfl
  refine W.last hx hb hc ((hK.2 0 _ rfl).1 1 (fun j => .long (ov j))) (fun q => by cases q) (by show ¬ ((0 : Int32) < 0 ∨ (arrV _ _ _).slots.size ≤ _); rw [arrV_size]; show ¬ ((0 : Int32) < 0 ∨ 1 ≤ Int32.toNatClampNeg 0); decide) rfl rfl hdg fun H1 e z oq => ?_
  refine kk H1 _ ?_ (hP.kept (fun k q hk => oq _ (hne k q hk))) (hS.put z oq hA)
  intro k q hk
  have hz : k < 1 := (List.getElem?_eq_some_iff.mp hk).1
  rw [show k = 0 by omega] at hk
  cases hk
  show H1[oa]? = some (vp_cell _ _)
  rw [e]
  rw [vp_cell_l, vp_cell_l, arrV_store]
  rfl
end HR
theorem xg_T {D : va_G} {cl : List vw_C} {A : Nat → Prop} {w : va_W} {X : String} {Z : va_W → Prop} {a : Array Value} : xg_X (gx_T D cl A w X Z a) X := fun x st₀ t h => by
  obtain ⟨x', cell, w', e, h1, h2, h3, -⟩ := h
  cases e
  exact ⟨cell, h1, h2, h3⟩
theorem hq_adr {l : Launch} {y : MethodName} {ws : List Cond} {rm : Room} {Pc : Array Value → State → Prop} {D : va_G} {cl : List vw_C} {w : va_W} {A : Nat → Prop} {Z : Option Value → va_W → Prop} {mc ms : Nat} {free : Addr → Prop} (hM : Met l y ws rm Pc (gx_Q D cl A w Z) mc ms free) : Met l y ws rm Pc (gx_Q D cl A w (fun v w' => Z v w' ∧ w'.map (fun q => q.1) = w.map (fun q => q.1))) mc ms free := by
  intro p e h1 h2 h3 s m args below hf happ hP hK
  obtain ⟨n, o, a1, a2, a3, ⟨v, w', q1, q2, q3, q4, q5⟩, L, hF, hL⟩ := hM p e h1 h2 h3 s m args below hf happ hP hK
  exact ⟨n, o, a1, a2, a3, ⟨v, w', q1, ⟨q2, q3⟩, q3, q4, q5⟩, L, hF, hL⟩
set_option maxHeartbeats 4000000 in
set_option maxRecDepth 100000 in
theorem h_allocate_ok (l : Launch) (D : va_G) (ca : Nat → ClassId) (hs : Nat → Nat) (rt : Nat → Int32) (wd : Nat → Int32) (ob : Nat → Nat) (ln : Nat → Nat) (kd : Nat → Nat) (qt : Nat → Bool) (df : Nat → Bool) (mk : Nat → Bool) (fd : Nat → Nat) (fc : Nat) (oc : Nat) (cn : Nat) (cL : ClassId) (oa : Nat) (ov : Nat → Int64) (a1 : Int32) (sl : Bool) (rm : Room) (hrm : rm.cells = 0 ∧ rm.slots = 0 ∧ rm.frames ≤ 13 ∧ rm.locals ≤ 400) (r : Int32) (Z : va_W → Prop) (hM : Met l y_G_allocate (Cond.code y_G_allocate b_G_allocate 4 (some .int) :: wa_all) rm (va_Pc [.ref (hs 0), .int a1, .int (zb_e sl)] (gx_I D cl_all (ty_G ca) (gw_G ca hs rt wd ob ln kd qt df mk fd fc oc cn))) (gx_Q D cl_all (gx_A hs 10) (gw_G ca hs rt wd ob ln kd qt df mk fd fc oc cn) (fun v w' => v = some (.int r) ∧ Z w')) 0 0 (gx_A hs 10)) : Met l y_L_allocate (Cond.codeWith y_L_allocate b_L_allocate 5 (some .int) [(0, 10, 13, 13), (0, 10, 17, 15)] :: wa_all) rm_h (va_Pc [.ref (hs 0), .int a1, .int (zb_e sl), .ref oa] (hq_I D ca hs cL oa (gw_G ca hs rt wd ob ln kd qt df mk fd fc oc cn) ov)) (hq_Q D hs cL oa (gw_G ca hs rt wd ob ln kd qt df mk fd fc oc cn) (fun k w' ov' => k = 0 ∧ Z w' ∧ ov' 0 = r.toInt64)) 1 6 (hq_A hs oa) := by
  refine hq_met (by decide) (Nat.le_of_ble_eq_true rfl) ?_
  intro p e s m args below meth c ls hx hb hml ht hown htb hlk hrt hI hl
  obtain ⟨⟨hP, hK, hD⟩, ⟨hPo, hKo, hDo⟩, hne, hT, hN⟩ := hI
  have hl : lv_has ls 5 [(0, .ref (hs 0)), (1, .int a1), (2, .int (zb_e sl)), (3, .ref oa)] := hl
  have hown : s.vm.findClass R_L = some m.cls := hown
  have hS : va_S (hq_A hs oa) s.heap s.heap [] := va_S.rf
  have hD : va_D (hq_A hs oa) (gw_G ca hs rt wd ob ln kd qt df mk fd fc oc cn) := ⟨hD.1, fun k q hk => Or.inl (gw_G_in k q hk)⟩
  have hoA : ¬ gx_A hs 10 oa := fun ⟨k, hk, e⟩ => hne k hk e.symm
  have hol : oa < s.heap.size := va_lt hPo 0 _ rfl
  refine lv_aload_n hx hb d_L_allocate_0 rfl (lv_at hl 3 rfl) ?_
  refine lv_iconst (v := 0) hx hb d_L_allocate_1 (by decide +kernel) ?_
  refine lv_aload_n hx hb d_L_allocate_2 rfl (lv_at hl 0 rfl) ?_
  refine lv_iload_n hx hb d_L_allocate_3 rfl (lv_at hl 1 rfl) ?_
  refine lv_iload_n hx hb d_L_allocate_4 rfl (lv_at hl 2 rfl) ?_
  refine gx_cM (n := 2) (q0 := 0) (ci := 0) (q := (R_G, F_G, 12)) (C := R_G) (own := R_L) (As := [.int a1, .int (zb_e sl)]) (rest := [.int 0, .ref oa]) ⟨hx, hb, hml, hown, ht⟩ hg_all (hq_adr hM) wm_247 wm_248 wm_249 wm_34 wm_250 ⟨rfl, by decide, by decide, by decide +kernel⟩ rfl ⟨hrm.1, hrm.2.1⟩ ⟨Nat.le_trans (Nat.add_le_add_right hrm.2.2.1 1) (by decide), Nat.le_trans (Nat.add_le_add_left hrm.2.2.2 _) (by decide)⟩ ⟨by decide, by decide⟩ hK hP hD hS (fun _ h => Or.inl h) rfl rfl rfl hl.1 rfl (Nat.le_of_ble_eq_true rfl) d_L_allocate_5 (fun v w' H locs hZ hP1 hD1 hS h5 h6 => ?_)
  obtain ⟨⟨rfl, hZ⟩, hAD⟩ := hZ
  have hPo1 : va_P D cl_all (hq_o oa cL ov) H := hPo.kept (fun k q hk => by
    have hz : k < 1 := (List.getElem?_eq_some_iff.mp hk).1
    rw [show k = 0 by omega] at hk
    cases hk
    exact h6 oa hol hoA)
  have had : w'.map (fun q => q.1) = (gw_G ca hs rt wd ob ln kd qt df mk fd fc oc cn).map (fun q => q.1) := hAD
  refine lv_i2l hx hb d_L_allocate_8 rfl ?_
  refine hq_last hx hb hKo hPo1 hP1 (hq_in gw_G_in had hne) hS (Or.inr rfl) d_L_allocate_9 (fun H locs hPo hP hS => ?_)
  refine lv_goto (tgt := 21) hx hb d_L_allocate_10 (by decide) ?_
  refine lv_iconst (v := 0) hx hb d_L_allocate_21 (by decide +kernel) ?_
  refine W.widen (k := 1) (n := 6) (by decide) (by decide) ?_
  exact W.iret hx hb hrt (fun t ht0 _ => ⟨0, w', vp_updL ov 0 r.toInt64, rfl, ⟨rfl, hZ, rfl⟩, had, by rw [ht0]; exact hP, by rw [ht0]; exact hPo, hS.F ht0⟩) hS.2.2 d_L_allocate_22 hlk

set_option maxHeartbeats 4000000 in
set_option maxRecDepth 100000 in
theorem h_allocate_x1 (l : Launch) (D : va_G) (ca : Nat → ClassId) (hs : Nat → Nat) (rt : Nat → Int32) (wd : Nat → Int32) (ob : Nat → Nat) (ln : Nat → Nat) (kd : Nat → Nat) (qt : Nat → Bool) (df : Nat → Bool) (mk : Nat → Bool) (fd : Nat → Nat) (fc : Nat) (oc : Nat) (cn : Nat) (cL : ClassId) (oa : Nat) (ov : Nat → Int64) (a1 : Int32) (sl : Bool) (rm : Room) (hrm : rm.cells = 1 ∧ rm.slots = 6 ∧ rm.frames ≤ 13 ∧ rm.locals ≤ 400) (Z : va_W → Prop) (hM : xt_M l y_G_allocate (Cond.code y_G_allocate b_G_allocate 4 (some .int) :: wa_all) rm (va_Pc [.ref (hs 0), .int a1, .int (zb_e sl)] (gt_I D ca (gw_G ca hs rt wd ob ln kd qt df mk fd fc oc cn))) (gx_T D cl_all (gx_A hs 10) (gw_G ca hs rt wd ob ln kd qt df mk fd fc oc cn) X_IAE Z) 1 6 (gx_A hs 10)) : Met l y_L_allocate (Cond.codeWith y_L_allocate b_L_allocate 5 (some .int) [(0, 10, 13, 13), (0, 10, 17, 15)] :: wa_all) rm_h (va_Pc [.ref (hs 0), .int a1, .int (zb_e sl), .ref oa] (hq_I D ca hs cL oa (gw_G ca hs rt wd ob ln kd qt df mk fd fc oc cn) ov)) (hq_Q D hs cL oa (gw_G ca hs rt wd ob ln kd qt df mk fd fc oc cn) (fun k w' ov' => k = 1 ∧ Z w' ∧ ov' = ov)) 1 6 (hq_A hs oa) := by
  refine hq_met (by decide) (Nat.le_of_ble_eq_true rfl) ?_
  intro p e s m args below meth c ls hx hb hml ht hown htb hlk hrt hI hl
  obtain ⟨⟨hP, hK, hD⟩, ⟨hPo, hKo, hDo⟩, hne, hT, hN⟩ := hI
  have hl : lv_has ls 5 [(0, .ref (hs 0)), (1, .int a1), (2, .int (zb_e sl)), (3, .ref oa)] := hl
  have hown : s.vm.findClass R_L = some m.cls := hown
  have hS : va_S (hq_A hs oa) s.heap s.heap [] := va_S.rf
  have hD : va_D (hq_A hs oa) (gw_G ca hs rt wd ob ln kd qt df mk fd fc oc cn) := ⟨hD.1, fun k q hk => Or.inl (gw_G_in k q hk)⟩
  have hoA : ¬ gx_A hs 10 oa := fun ⟨k, hk, e⟩ => hne k hk e.symm
  have hol : oa < s.heap.size := va_lt hPo 0 _ rfl
  refine lv_aload_n hx hb d_L_allocate_0 rfl (lv_at hl 3 rfl) ?_
  refine lv_iconst (v := 0) hx hb d_L_allocate_1 (by decide +kernel) ?_
  refine lv_aload_n hx hb d_L_allocate_2 rfl (lv_at hl 0 rfl) ?_
  refine lv_iload_n hx hb d_L_allocate_3 rfl (lv_at hl 1 rfl) ?_
  refine lv_iload_n hx hb d_L_allocate_4 rfl (lv_at hl 2 rfl) ?_
  refine xg_catch1 (X := X_IAE) (xt_runV (y := y_G_allocate) (ws := Cond.code y_G_allocate b_G_allocate 4 (some .int) :: wa_all) (own := R_L) (C := R_G) (b := hs 0) (n := 2) (As := [.int a1, .int (zb_e sl)]) (rest := [.int 0, .ref oa]) ⟨hx, hb, hml, hown, ht⟩ hM (cwV 2 ht (wg_cons hg_all wm_247 (wg_cons hg_all wm_248 (wg_cons hg_all wm_249 (wg_cons hg_all wm_34 (wg_cons hg_all wm_250 hg_all))))) rfl hrm.1 hrm.2.1 ⟨rfl, by decide, by decide, by decide +kernel⟩ ⟨Nat.le_trans (Nat.add_le_add_right hrm.2.2.1 1) (by decide), Nat.le_trans (Nat.add_le_add_left hrm.2.2.2 _) (by decide)⟩) ⟨gt_blind, va_recv (q := (R_G, F_G, 12)) hK hP (ci := 0) rfl (q0 := 0) rfl, fun U hU hW => ⟨rfl, ⟨by rw [hU]; exact hP, va_K.moved hW.alike hK, hD.weaken (fun _ _ _ _ => trivial)⟩, xs_moved hW (by rw [hU]; exact xs_H.refl _) hT⟩⟩ rfl rfl hl.1 rfl (lv_room (Nat.le_of_ble_eq_true rfl)) d_L_allocate_5 ⟨by decide, by decide⟩) xg_T hown (ht _ wm_245) htb ⟨by decide, by decide⟩ (by decide) (fun x st₀ t L h0 hq hA hL => ?_)
  obtain ⟨x', cell, w', g1, g2, g3, g4, hZ, had, hP1, hF⟩ := hq
  unfold va_F at hF
  rw [h0] at hF
  have hPo1 : va_P D cl_all (hq_o oa cL ov) t.heap := hPo.kept (fun k q hk => by
    have hz : k < 1 := (List.getElem?_eq_some_iff.mp hk).1
    rw [show k = 0 by omega] at hk
    cases hk
    exact hF.2 oa hol hoA)
  refine lv_astore (lv' := [(4, .ref x), (0, .ref (hs 0)), (1, .int a1), (2, .int (zb_e sl)), (3, .ref oa)]) hx hb d_L_allocate_13 hl (by decide) rfl (fun ls hl => ?_)
  refine lv_iconst (v := 1) hx hb d_L_allocate_15 (by decide +kernel) ?_
  exact W.iret hx hb hrt (fun t2 ht0 _ => ⟨1, w', ov, rfl, ⟨rfl, hZ, rfl⟩, had, by rw [ht0]; exact hP1, by rw [ht0]; exact hPo1, by rw [ht0]; exact hF.1, fun q q1 q2 => by rw [ht0]; exact hF.2 q q1 (fun h => q2 (Or.inl h))⟩) (fun q hq => Or.inl (hL q hq)) d_L_allocate_16 hlk

set_option maxHeartbeats 4000000 in
set_option maxRecDepth 100000 in
theorem h_allocate_x2 (l : Launch) (D : va_G) (ca : Nat → ClassId) (hs : Nat → Nat) (rt : Nat → Int32) (wd : Nat → Int32) (ob : Nat → Nat) (ln : Nat → Nat) (kd : Nat → Nat) (qt : Nat → Bool) (df : Nat → Bool) (mk : Nat → Bool) (fd : Nat → Nat) (fc : Nat) (oc : Nat) (cn : Nat) (cL : ClassId) (oa : Nat) (ov : Nat → Int64) (a1 : Int32) (sl : Bool) (rm : Room) (hrm : rm.cells = 1 ∧ rm.slots = 6 ∧ rm.frames ≤ 13 ∧ rm.locals ≤ 400) (Z : va_W → Prop) (hM : xt_M l y_G_allocate (Cond.code y_G_allocate b_G_allocate 4 (some .int) :: wa_all) rm (va_Pc [.ref (hs 0), .int a1, .int (zb_e sl)] (gt_I D ca (gw_G ca hs rt wd ob ln kd qt df mk fd fc oc cn))) (gx_T D cl_all (gx_A hs 10) (gw_G ca hs rt wd ob ln kd qt df mk fd fc oc cn) X_ISE Z) 1 6 (gx_A hs 10)) : Met l y_L_allocate (Cond.codeWith y_L_allocate b_L_allocate 5 (some .int) [(0, 10, 13, 13), (0, 10, 17, 15)] :: wa_all) rm_h (va_Pc [.ref (hs 0), .int a1, .int (zb_e sl), .ref oa] (hq_I D ca hs cL oa (gw_G ca hs rt wd ob ln kd qt df mk fd fc oc cn) ov)) (hq_Q D hs cL oa (gw_G ca hs rt wd ob ln kd qt df mk fd fc oc cn) (fun k w' ov' => k = 2 ∧ Z w' ∧ ov' = ov)) 1 6 (hq_A hs oa) := by
  refine hq_met (by decide) (Nat.le_of_ble_eq_true rfl) ?_
  intro p e s m args below meth c ls hx hb hml ht hown htb hlk hrt hI hl
  obtain ⟨⟨hP, hK, hD⟩, ⟨hPo, hKo, hDo⟩, hne, hT, hN⟩ := hI
  have hl : lv_has ls 5 [(0, .ref (hs 0)), (1, .int a1), (2, .int (zb_e sl)), (3, .ref oa)] := hl
  have hown : s.vm.findClass R_L = some m.cls := hown
  have hS : va_S (hq_A hs oa) s.heap s.heap [] := va_S.rf
  have hD : va_D (hq_A hs oa) (gw_G ca hs rt wd ob ln kd qt df mk fd fc oc cn) := ⟨hD.1, fun k q hk => Or.inl (gw_G_in k q hk)⟩
  have hoA : ¬ gx_A hs 10 oa := fun ⟨k, hk, e⟩ => hne k hk e.symm
  have hol : oa < s.heap.size := va_lt hPo 0 _ rfl
  refine lv_aload_n hx hb d_L_allocate_0 rfl (lv_at hl 3 rfl) ?_
  refine lv_iconst (v := 0) hx hb d_L_allocate_1 (by decide +kernel) ?_
  refine lv_aload_n hx hb d_L_allocate_2 rfl (lv_at hl 0 rfl) ?_
  refine lv_iload_n hx hb d_L_allocate_3 rfl (lv_at hl 1 rfl) ?_
  refine lv_iload_n hx hb d_L_allocate_4 rfl (lv_at hl 2 rfl) ?_
  refine xg_catch2 (X := X_ISE) (Y := X_IAE) (xt_runV (y := y_G_allocate) (ws := Cond.code y_G_allocate b_G_allocate 4 (some .int) :: wa_all) (own := R_L) (C := R_G) (b := hs 0) (n := 2) (As := [.int a1, .int (zb_e sl)]) (rest := [.int 0, .ref oa]) ⟨hx, hb, hml, hown, ht⟩ hM (cwV 2 ht (wg_cons hg_all wm_247 (wg_cons hg_all wm_248 (wg_cons hg_all wm_249 (wg_cons hg_all wm_34 (wg_cons hg_all wm_250 hg_all))))) rfl hrm.1 hrm.2.1 ⟨rfl, by decide, by decide, by decide +kernel⟩ ⟨Nat.le_trans (Nat.add_le_add_right hrm.2.2.1 1) (by decide), Nat.le_trans (Nat.add_le_add_left hrm.2.2.2 _) (by decide)⟩) ⟨gt_blind, va_recv (q := (R_G, F_G, 12)) hK hP (ci := 0) rfl (q0 := 0) rfl, fun U hU hW => ⟨rfl, ⟨by rw [hU]; exact hP, va_K.moved hW.alike hK, hD.weaken (fun _ _ _ _ => trivial)⟩, xs_moved hW (by rw [hU]; exact xs_H.refl _) hT⟩⟩ rfl rfl hl.1 rfl (lv_room (Nat.le_of_ble_eq_true rfl)) d_L_allocate_5 ⟨by decide, by decide⟩) xg_T hN.1 hown (ht _ wm_245) (ht _ wm_246) htb ⟨by decide, by decide⟩ (by decide) (by decide) (fun x st₀ t L h0 hq hA hL => ?_)
  obtain ⟨x', cell, w', g1, g2, g3, g4, hZ, had, hP1, hF⟩ := hq
  unfold va_F at hF
  rw [h0] at hF
  have hPo1 : va_P D cl_all (hq_o oa cL ov) t.heap := hPo.kept (fun k q hk => by
    have hz : k < 1 := (List.getElem?_eq_some_iff.mp hk).1
    rw [show k = 0 by omega] at hk
    cases hk
    exact hF.2 oa hol hoA)
  refine lv_astore (lv' := [(4, .ref x), (0, .ref (hs 0)), (1, .int a1), (2, .int (zb_e sl)), (3, .ref oa)]) hx hb d_L_allocate_17 hl (by decide) rfl (fun ls hl => ?_)
  refine lv_iconst (v := 2) hx hb d_L_allocate_19 (by decide +kernel) ?_
  exact W.iret hx hb hrt (fun t2 ht0 _ => ⟨2, w', ov, rfl, ⟨rfl, hZ, rfl⟩, had, by rw [ht0]; exact hP1, by rw [ht0]; exact hPo1, by rw [ht0]; exact hF.1, fun q q1 q2 => by rw [ht0]; exact hF.2 q q1 (fun h => q2 (Or.inl h))⟩) (fun q hq => Or.inl (hL q hq)) d_L_allocate_20 hlk

set_option maxHeartbeats 4000000 in
set_option maxRecDepth 100000 in
theorem h_root_ok (l : Launch) (D : va_G) (ca : Nat → ClassId) (hs : Nat → Nat) (rt : Nat → Int32) (wd : Nat → Int32) (ob : Nat → Nat) (ln : Nat → Nat) (kd : Nat → Nat) (qt : Nat → Bool) (df : Nat → Bool) (mk : Nat → Bool) (fd : Nat → Nat) (fc : Nat) (oc : Nat) (cn : Nat) (cL : ClassId) (oa : Nat) (ov : Nat → Int64) (a1 a2 : Int32) (rm : Room) (hrm : rm.cells = 0 ∧ rm.slots = 0 ∧ rm.frames ≤ 13 ∧ rm.locals ≤ 400) (r : Int32) (Z : va_W → Prop) (hM : Met l y_G_root (Cond.code y_G_root b_G_root 3 none :: wa_all) rm (va_Pc [.ref (hs 0), .int a1, .int a2] (gx_I D cl_all (ty_G ca) (gw_G ca hs rt wd ob ln kd qt df mk fd fc oc cn))) (gx_Q D cl_all (gx_A hs 10) (gw_G ca hs rt wd ob ln kd qt df mk fd fc oc cn) (fun v w' => v = none ∧ Z w')) 0 0 (gx_A hs 10)) : Met l y_L_root (Cond.codeWith y_L_root b_L_root 4 (some .int) [(0, 6, 9, 21)] :: wa_all) rm_h (va_Pc [.ref (hs 0), .int a1, .int a2] (hq_I D ca hs cL oa (gw_G ca hs rt wd ob ln kd qt df mk fd fc oc cn) ov)) (hq_Q D hs cL oa (gw_G ca hs rt wd ob ln kd qt df mk fd fc oc cn) (fun k w' ov' => k = 0 ∧ Z w' ∧ ov' = ov)) 1 6 (hq_A hs oa) := by
  refine hq_met (by decide) (Nat.le_of_ble_eq_true rfl) ?_
  intro p e s m args below meth c ls hx hb hml ht hown htb hlk hrt hI hl
  obtain ⟨⟨hP, hK, hD⟩, ⟨hPo, hKo, hDo⟩, hne, hT, hN⟩ := hI
  have hl : lv_has ls 4 [(0, .ref (hs 0)), (1, .int a1), (2, .int a2)] := hl
  have hown : s.vm.findClass R_L = some m.cls := hown
  have hS : va_S (hq_A hs oa) s.heap s.heap [] := va_S.rf
  have hD : va_D (hq_A hs oa) (gw_G ca hs rt wd ob ln kd qt df mk fd fc oc cn) := ⟨hD.1, fun k q hk => Or.inl (gw_G_in k q hk)⟩
  have hoA : ¬ gx_A hs 10 oa := fun ⟨k, hk, e⟩ => hne k hk e.symm
  have hol : oa < s.heap.size := va_lt hPo 0 _ rfl
  refine lv_aload_n hx hb d_L_root_0 rfl (lv_at hl 0 rfl) ?_
  refine lv_iload_n hx hb d_L_root_1 rfl (lv_at hl 1 rfl) ?_
  refine lv_iload_n hx hb d_L_root_2 rfl (lv_at hl 2 rfl) ?_
  refine gx_cM (n := 2) (q0 := 0) (ci := 0) (q := (R_G, F_G, 12)) (C := R_G) (own := R_L) (As := [.int a1, .int a2]) (rest := []) ⟨hx, hb, hml, hown, ht⟩ hg_all (hq_adr hM) wm_298 wm_299 wm_300 wm_34 wm_301 ⟨rfl, by decide, by decide, by decide +kernel⟩ rfl ⟨hrm.1, hrm.2.1⟩ ⟨Nat.le_trans (Nat.add_le_add_right hrm.2.2.1 1) (by decide), Nat.le_trans (Nat.add_le_add_left hrm.2.2.2 _) (by decide)⟩ ⟨by decide, by decide⟩ hK hP hD hS (fun _ h => Or.inl h) rfl rfl rfl hl.1 rfl (Nat.le_of_ble_eq_true rfl) d_L_root_3 (fun v w' H locs hZ hP1 hD1 hS h5 h6 => ?_)
  obtain ⟨⟨rfl, hZ⟩, hAD⟩ := hZ
  have hPo1 : va_P D cl_all (hq_o oa cL ov) H := hPo.kept (fun k q hk => by
    have hz : k < 1 := (List.getElem?_eq_some_iff.mp hk).1
    rw [show k = 0 by omega] at hk
    cases hk
    exact h6 oa hol hoA)
  have had : w'.map (fun q => q.1) = (gw_G ca hs rt wd ob ln kd qt df mk fd fc oc cn).map (fun q => q.1) := hAD
  refine lv_goto (tgt := 12) hx hb d_L_root_6 (by decide) ?_
  refine lv_iconst (v := 0) hx hb d_L_root_12 (by decide +kernel) ?_
  refine W.widen (k := 1) (n := 6) (by decide) (by decide) ?_
  exact W.iret hx hb hrt (fun t ht0 _ => ⟨0, w', ov, rfl, ⟨rfl, hZ, rfl⟩, had, by rw [ht0]; exact hP1, by rw [ht0]; exact hPo1, hS.F ht0⟩) hS.2.2 d_L_root_13 hlk

set_option maxHeartbeats 4000000 in
set_option maxRecDepth 100000 in
theorem h_root_x1 (l : Launch) (D : va_G) (ca : Nat → ClassId) (hs : Nat → Nat) (rt : Nat → Int32) (wd : Nat → Int32) (ob : Nat → Nat) (ln : Nat → Nat) (kd : Nat → Nat) (qt : Nat → Bool) (df : Nat → Bool) (mk : Nat → Bool) (fd : Nat → Nat) (fc : Nat) (oc : Nat) (cn : Nat) (cL : ClassId) (oa : Nat) (ov : Nat → Int64) (a1 a2 : Int32) (rm : Room) (hrm : rm.cells = 1 ∧ rm.slots = 6 ∧ rm.frames ≤ 13 ∧ rm.locals ≤ 400) (Z : va_W → Prop) (hM : xt_M l y_G_root (Cond.code y_G_root b_G_root 3 none :: wa_all) rm (va_Pc [.ref (hs 0), .int a1, .int a2] (gt_I D ca (gw_G ca hs rt wd ob ln kd qt df mk fd fc oc cn))) (gx_T D cl_all (gx_A hs 10) (gw_G ca hs rt wd ob ln kd qt df mk fd fc oc cn) X_IOOBE Z) 1 6 (gx_A hs 10)) : Met l y_L_root (Cond.codeWith y_L_root b_L_root 4 (some .int) [(0, 6, 9, 21)] :: wa_all) rm_h (va_Pc [.ref (hs 0), .int a1, .int a2] (hq_I D ca hs cL oa (gw_G ca hs rt wd ob ln kd qt df mk fd fc oc cn) ov)) (hq_Q D hs cL oa (gw_G ca hs rt wd ob ln kd qt df mk fd fc oc cn) (fun k w' ov' => k = 1 ∧ Z w' ∧ ov' = ov)) 1 6 (hq_A hs oa) := by
  refine hq_met (by decide) (Nat.le_of_ble_eq_true rfl) ?_
  intro p e s m args below meth c ls hx hb hml ht hown htb hlk hrt hI hl
  obtain ⟨⟨hP, hK, hD⟩, ⟨hPo, hKo, hDo⟩, hne, hT, hN⟩ := hI
  have hl : lv_has ls 4 [(0, .ref (hs 0)), (1, .int a1), (2, .int a2)] := hl
  have hown : s.vm.findClass R_L = some m.cls := hown
  have hS : va_S (hq_A hs oa) s.heap s.heap [] := va_S.rf
  have hD : va_D (hq_A hs oa) (gw_G ca hs rt wd ob ln kd qt df mk fd fc oc cn) := ⟨hD.1, fun k q hk => Or.inl (gw_G_in k q hk)⟩
  have hoA : ¬ gx_A hs 10 oa := fun ⟨k, hk, e⟩ => hne k hk e.symm
  have hol : oa < s.heap.size := va_lt hPo 0 _ rfl
  refine lv_aload_n hx hb d_L_root_0 rfl (lv_at hl 0 rfl) ?_
  refine lv_iload_n hx hb d_L_root_1 rfl (lv_at hl 1 rfl) ?_
  refine lv_iload_n hx hb d_L_root_2 rfl (lv_at hl 2 rfl) ?_
  refine xg_catch1 (X := X_IOOBE) (xt_runV (y := y_G_root) (ws := Cond.code y_G_root b_G_root 3 none :: wa_all) (own := R_L) (C := R_G) (b := hs 0) (n := 2) (As := [.int a1, .int a2]) (rest := []) ⟨hx, hb, hml, hown, ht⟩ hM (cwV 2 ht (wg_cons hg_all wm_298 (wg_cons hg_all wm_299 (wg_cons hg_all wm_300 (wg_cons hg_all wm_34 (wg_cons hg_all wm_301 hg_all))))) rfl hrm.1 hrm.2.1 ⟨rfl, by decide, by decide, by decide +kernel⟩ ⟨Nat.le_trans (Nat.add_le_add_right hrm.2.2.1 1) (by decide), Nat.le_trans (Nat.add_le_add_left hrm.2.2.2 _) (by decide)⟩) ⟨gt_blind, va_recv (q := (R_G, F_G, 12)) hK hP (ci := 0) rfl (q0 := 0) rfl, fun U hU hW => ⟨rfl, ⟨by rw [hU]; exact hP, va_K.moved hW.alike hK, hD.weaken (fun _ _ _ _ => trivial)⟩, xs_moved hW (by rw [hU]; exact xs_H.refl _) hT⟩⟩ rfl rfl hl.1 rfl (lv_room (Nat.le_of_ble_eq_true rfl)) d_L_root_3 ⟨by decide, by decide⟩) xg_T hown (ht _ wm_297) htb ⟨by decide, by decide⟩ (by decide) (fun x st₀ t L h0 hq hA hL => ?_)
  obtain ⟨x', cell, w', g1, g2, g3, g4, hZ, had, hP1, hF⟩ := hq
  unfold va_F at hF
  rw [h0] at hF
  have hPo1 : va_P D cl_all (hq_o oa cL ov) t.heap := hPo.kept (fun k q hk => by
    have hz : k < 1 := (List.getElem?_eq_some_iff.mp hk).1
    rw [show k = 0 by omega] at hk
    cases hk
    exact hF.2 oa hol hoA)
  refine lv_astore_n (lv' := [(3, .ref x), (0, .ref (hs 0)), (1, .int a1), (2, .int a2)]) hx hb d_L_root_9 rfl hl (by decide) rfl (fun ls hl => ?_)
  refine lv_iconst (v := 1) hx hb d_L_root_10 (by decide +kernel) ?_
  exact W.iret hx hb hrt (fun t2 ht0 _ => ⟨1, w', ov, rfl, ⟨rfl, hZ, rfl⟩, had, by rw [ht0]; exact hP1, by rw [ht0]; exact hPo1, by rw [ht0]; exact hF.1, fun q q1 q2 => by rw [ht0]; exact hF.2 q q1 (fun h => q2 (Or.inl h))⟩) (fun q hq => Or.inl (hL q hq)) d_L_root_11 hlk

set_option maxHeartbeats 4000000 in
set_option maxRecDepth 100000 in
theorem h_rooted_ok (l : Launch) (D : va_G) (ca : Nat → ClassId) (hs : Nat → Nat) (rt : Nat → Int32) (wd : Nat → Int32) (ob : Nat → Nat) (ln : Nat → Nat) (kd : Nat → Nat) (qt : Nat → Bool) (df : Nat → Bool) (mk : Nat → Bool) (fd : Nat → Nat) (fc : Nat) (oc : Nat) (cn : Nat) (cL : ClassId) (oa : Nat) (ov : Nat → Int64) (a1 : Int32) (rm : Room) (hrm : rm.cells = 0 ∧ rm.slots = 0 ∧ rm.frames ≤ 13 ∧ rm.locals ≤ 400) (r : Int32) (Z : va_W → Prop) (hM : Met l y_G_rooted (Cond.code y_G_rooted b_G_rooted 2 (some .int) :: wa_all) rm (va_Pc [.ref (hs 0), .int a1] (gx_I D cl_all (ty_G ca) (gw_G ca hs rt wd ob ln kd qt df mk fd fc oc cn))) (gx_Q D cl_all (gx_A hs 10) (gw_G ca hs rt wd ob ln kd qt df mk fd fc oc cn) (fun v w' => v = some (.int r) ∧ Z w')) 0 0 (gx_A hs 10)) : Met l y_L_rooted (Cond.codeWith y_L_rooted b_L_rooted 4 (some .int) [(0, 9, 12, 21)] :: wa_all) rm_h (va_Pc [.ref (hs 0), .int a1, .ref oa] (hq_I D ca hs cL oa (gw_G ca hs rt wd ob ln kd qt df mk fd fc oc cn) ov)) (hq_Q D hs cL oa (gw_G ca hs rt wd ob ln kd qt df mk fd fc oc cn) (fun k w' ov' => k = 0 ∧ Z w' ∧ ov' 0 = r.toInt64)) 1 6 (hq_A hs oa) := by
  refine hq_met (by decide) (Nat.le_of_ble_eq_true rfl) ?_
  intro p e s m args below meth c ls hx hb hml ht hown htb hlk hrt hI hl
  obtain ⟨⟨hP, hK, hD⟩, ⟨hPo, hKo, hDo⟩, hne, hT, hN⟩ := hI
  have hl : lv_has ls 4 [(0, .ref (hs 0)), (1, .int a1), (2, .ref oa)] := hl
  have hown : s.vm.findClass R_L = some m.cls := hown
  have hS : va_S (hq_A hs oa) s.heap s.heap [] := va_S.rf
  have hD : va_D (hq_A hs oa) (gw_G ca hs rt wd ob ln kd qt df mk fd fc oc cn) := ⟨hD.1, fun k q hk => Or.inl (gw_G_in k q hk)⟩
  have hoA : ¬ gx_A hs 10 oa := fun ⟨k, hk, e⟩ => hne k hk e.symm
  have hol : oa < s.heap.size := va_lt hPo 0 _ rfl
  refine lv_aload_n hx hb d_L_rooted_0 rfl (lv_at hl 2 rfl) ?_
  refine lv_iconst (v := 0) hx hb d_L_rooted_1 (by decide +kernel) ?_
  refine lv_aload_n hx hb d_L_rooted_2 rfl (lv_at hl 0 rfl) ?_
  refine lv_iload_n hx hb d_L_rooted_3 rfl (lv_at hl 1 rfl) ?_
  refine gx_cM (n := 1) (q0 := 0) (ci := 0) (q := (R_G, F_G, 12)) (C := R_G) (own := R_L) (As := [.int a1]) (rest := [.int 0, .ref oa]) ⟨hx, hb, hml, hown, ht⟩ hg_all (hq_adr hM) wm_319 wm_320 wm_321 wm_34 wm_322 ⟨rfl, by decide, by decide, by decide +kernel⟩ rfl ⟨hrm.1, hrm.2.1⟩ ⟨Nat.le_trans (Nat.add_le_add_right hrm.2.2.1 1) (by decide), Nat.le_trans (Nat.add_le_add_left hrm.2.2.2 _) (by decide)⟩ ⟨by decide, by decide⟩ hK hP hD hS (fun _ h => Or.inl h) rfl rfl rfl hl.1 rfl (Nat.le_of_ble_eq_true rfl) d_L_rooted_4 (fun v w' H locs hZ hP1 hD1 hS h5 h6 => ?_)
  obtain ⟨⟨rfl, hZ⟩, hAD⟩ := hZ
  have hPo1 : va_P D cl_all (hq_o oa cL ov) H := hPo.kept (fun k q hk => by
    have hz : k < 1 := (List.getElem?_eq_some_iff.mp hk).1
    rw [show k = 0 by omega] at hk
    cases hk
    exact h6 oa hol hoA)
  have had : w'.map (fun q => q.1) = (gw_G ca hs rt wd ob ln kd qt df mk fd fc oc cn).map (fun q => q.1) := hAD
  refine lv_i2l hx hb d_L_rooted_7 rfl ?_
  refine hq_last hx hb hKo hPo1 hP1 (hq_in gw_G_in had hne) hS (Or.inr rfl) d_L_rooted_8 (fun H locs hPo hP hS => ?_)
  refine lv_goto (tgt := 15) hx hb d_L_rooted_9 (by decide) ?_
  refine lv_iconst (v := 0) hx hb d_L_rooted_15 (by decide +kernel) ?_
  refine W.widen (k := 1) (n := 6) (by decide) (by decide) ?_
  exact W.iret hx hb hrt (fun t ht0 _ => ⟨0, w', vp_updL ov 0 r.toInt64, rfl, ⟨rfl, hZ, rfl⟩, had, by rw [ht0]; exact hP, by rw [ht0]; exact hPo, hS.F ht0⟩) hS.2.2 d_L_rooted_16 hlk

set_option maxHeartbeats 4000000 in
set_option maxRecDepth 100000 in
theorem h_rooted_x1 (l : Launch) (D : va_G) (ca : Nat → ClassId) (hs : Nat → Nat) (rt : Nat → Int32) (wd : Nat → Int32) (ob : Nat → Nat) (ln : Nat → Nat) (kd : Nat → Nat) (qt : Nat → Bool) (df : Nat → Bool) (mk : Nat → Bool) (fd : Nat → Nat) (fc : Nat) (oc : Nat) (cn : Nat) (cL : ClassId) (oa : Nat) (ov : Nat → Int64) (a1 : Int32) (rm : Room) (hrm : rm.cells = 1 ∧ rm.slots = 6 ∧ rm.frames ≤ 13 ∧ rm.locals ≤ 400) (Z : va_W → Prop) (hM : xt_M l y_G_rooted (Cond.code y_G_rooted b_G_rooted 2 (some .int) :: wa_all) rm (va_Pc [.ref (hs 0), .int a1] (gt_I D ca (gw_G ca hs rt wd ob ln kd qt df mk fd fc oc cn))) (gx_T D cl_all (gx_A hs 10) (gw_G ca hs rt wd ob ln kd qt df mk fd fc oc cn) X_IOOBE Z) 1 6 (gx_A hs 10)) : Met l y_L_rooted (Cond.codeWith y_L_rooted b_L_rooted 4 (some .int) [(0, 9, 12, 21)] :: wa_all) rm_h (va_Pc [.ref (hs 0), .int a1, .ref oa] (hq_I D ca hs cL oa (gw_G ca hs rt wd ob ln kd qt df mk fd fc oc cn) ov)) (hq_Q D hs cL oa (gw_G ca hs rt wd ob ln kd qt df mk fd fc oc cn) (fun k w' ov' => k = 1 ∧ Z w' ∧ ov' = ov)) 1 6 (hq_A hs oa) := by
  refine hq_met (by decide) (Nat.le_of_ble_eq_true rfl) ?_
  intro p e s m args below meth c ls hx hb hml ht hown htb hlk hrt hI hl
  obtain ⟨⟨hP, hK, hD⟩, ⟨hPo, hKo, hDo⟩, hne, hT, hN⟩ := hI
  have hl : lv_has ls 4 [(0, .ref (hs 0)), (1, .int a1), (2, .ref oa)] := hl
  have hown : s.vm.findClass R_L = some m.cls := hown
  have hS : va_S (hq_A hs oa) s.heap s.heap [] := va_S.rf
  have hD : va_D (hq_A hs oa) (gw_G ca hs rt wd ob ln kd qt df mk fd fc oc cn) := ⟨hD.1, fun k q hk => Or.inl (gw_G_in k q hk)⟩
  have hoA : ¬ gx_A hs 10 oa := fun ⟨k, hk, e⟩ => hne k hk e.symm
  have hol : oa < s.heap.size := va_lt hPo 0 _ rfl
  refine lv_aload_n hx hb d_L_rooted_0 rfl (lv_at hl 2 rfl) ?_
  refine lv_iconst (v := 0) hx hb d_L_rooted_1 (by decide +kernel) ?_
  refine lv_aload_n hx hb d_L_rooted_2 rfl (lv_at hl 0 rfl) ?_
  refine lv_iload_n hx hb d_L_rooted_3 rfl (lv_at hl 1 rfl) ?_
  refine xg_catch1 (X := X_IOOBE) (xt_runV (y := y_G_rooted) (ws := Cond.code y_G_rooted b_G_rooted 2 (some .int) :: wa_all) (own := R_L) (C := R_G) (b := hs 0) (n := 1) (As := [.int a1]) (rest := [.int 0, .ref oa]) ⟨hx, hb, hml, hown, ht⟩ hM (cwV 1 ht (wg_cons hg_all wm_319 (wg_cons hg_all wm_320 (wg_cons hg_all wm_321 (wg_cons hg_all wm_34 (wg_cons hg_all wm_322 hg_all))))) rfl hrm.1 hrm.2.1 ⟨rfl, by decide, by decide, by decide +kernel⟩ ⟨Nat.le_trans (Nat.add_le_add_right hrm.2.2.1 1) (by decide), Nat.le_trans (Nat.add_le_add_left hrm.2.2.2 _) (by decide)⟩) ⟨gt_blind, va_recv (q := (R_G, F_G, 12)) hK hP (ci := 0) rfl (q0 := 0) rfl, fun U hU hW => ⟨rfl, ⟨by rw [hU]; exact hP, va_K.moved hW.alike hK, hD.weaken (fun _ _ _ _ => trivial)⟩, xs_moved hW (by rw [hU]; exact xs_H.refl _) hT⟩⟩ rfl rfl hl.1 rfl (lv_room (Nat.le_of_ble_eq_true rfl)) d_L_rooted_4 ⟨by decide, by decide⟩) xg_T hown (ht _ wm_297) htb ⟨by decide, by decide⟩ (by decide) (fun x st₀ t L h0 hq hA hL => ?_)
  obtain ⟨x', cell, w', g1, g2, g3, g4, hZ, had, hP1, hF⟩ := hq
  unfold va_F at hF
  rw [h0] at hF
  have hPo1 : va_P D cl_all (hq_o oa cL ov) t.heap := hPo.kept (fun k q hk => by
    have hz : k < 1 := (List.getElem?_eq_some_iff.mp hk).1
    rw [show k = 0 by omega] at hk
    cases hk
    exact hF.2 oa hol hoA)
  refine lv_astore_n (lv' := [(3, .ref x), (0, .ref (hs 0)), (1, .int a1), (2, .ref oa)]) hx hb d_L_rooted_12 rfl hl (by decide) rfl (fun ls hl => ?_)
  refine lv_iconst (v := 1) hx hb d_L_rooted_13 (by decide +kernel) ?_
  exact W.iret hx hb hrt (fun t2 ht0 _ => ⟨1, w', ov, rfl, ⟨rfl, hZ, rfl⟩, had, by rw [ht0]; exact hP1, by rw [ht0]; exact hPo1, by rw [ht0]; exact hF.1, fun q q1 q2 => by rw [ht0]; exact hF.2 q q1 (fun h => q2 (Or.inl h))⟩) (fun q hq => Or.inl (hL q hq)) d_L_rooted_14 hlk

set_option maxHeartbeats 4000000 in
set_option maxRecDepth 100000 in
theorem h_read_ok (l : Launch) (D : va_G) (ca : Nat → ClassId) (hs : Nat → Nat) (rt : Nat → Int32) (wd : Nat → Int32) (ob : Nat → Nat) (ln : Nat → Nat) (kd : Nat → Nat) (qt : Nat → Bool) (df : Nat → Bool) (mk : Nat → Bool) (fd : Nat → Nat) (fc : Nat) (oc : Nat) (cn : Nat) (cL : ClassId) (oa : Nat) (ov : Nat → Int64) (a1 : Int32) (rm : Room) (hrm : rm.cells = 0 ∧ rm.slots = 0 ∧ rm.frames ≤ 13 ∧ rm.locals ≤ 400) (r : Int32) (Z : va_W → Prop) (hM : Met l y_G_read (Cond.code y_G_read b_G_read 2 (some .int) :: wa_all) rm (va_Pc [.ref (hs 0), .int a1] (gx_I D cl_all (ty_G ca) (gw_G ca hs rt wd ob ln kd qt df mk fd fc oc cn))) (gx_Q D cl_all (gx_A hs 10) (gw_G ca hs rt wd ob ln kd qt df mk fd fc oc cn) (fun v w' => v = some (.int r) ∧ Z w')) 0 0 (gx_A hs 10)) : Met l y_L_read (Cond.codeWith y_L_read b_L_read 4 (some .int) [(0, 9, 12, 21), (0, 9, 15, 15)] :: wa_all) rm_h (va_Pc [.ref (hs 0), .int a1, .ref oa] (hq_I D ca hs cL oa (gw_G ca hs rt wd ob ln kd qt df mk fd fc oc cn) ov)) (hq_Q D hs cL oa (gw_G ca hs rt wd ob ln kd qt df mk fd fc oc cn) (fun k w' ov' => k = 0 ∧ Z w' ∧ ov' 0 = r.toInt64)) 1 6 (hq_A hs oa) := by
  refine hq_met (by decide) (Nat.le_of_ble_eq_true rfl) ?_
  intro p e s m args below meth c ls hx hb hml ht hown htb hlk hrt hI hl
  obtain ⟨⟨hP, hK, hD⟩, ⟨hPo, hKo, hDo⟩, hne, hT, hN⟩ := hI
  have hl : lv_has ls 4 [(0, .ref (hs 0)), (1, .int a1), (2, .ref oa)] := hl
  have hown : s.vm.findClass R_L = some m.cls := hown
  have hS : va_S (hq_A hs oa) s.heap s.heap [] := va_S.rf
  have hD : va_D (hq_A hs oa) (gw_G ca hs rt wd ob ln kd qt df mk fd fc oc cn) := ⟨hD.1, fun k q hk => Or.inl (gw_G_in k q hk)⟩
  have hoA : ¬ gx_A hs 10 oa := fun ⟨k, hk, e⟩ => hne k hk e.symm
  have hol : oa < s.heap.size := va_lt hPo 0 _ rfl
  refine lv_aload_n hx hb d_L_read_0 rfl (lv_at hl 2 rfl) ?_
  refine lv_iconst (v := 0) hx hb d_L_read_1 (by decide +kernel) ?_
  refine lv_aload_n hx hb d_L_read_2 rfl (lv_at hl 0 rfl) ?_
  refine lv_iload_n hx hb d_L_read_3 rfl (lv_at hl 1 rfl) ?_
  refine gx_cM (n := 1) (q0 := 0) (ci := 0) (q := (R_G, F_G, 12)) (C := R_G) (own := R_L) (As := [.int a1]) (rest := [.int 0, .ref oa]) ⟨hx, hb, hml, hown, ht⟩ hg_all (hq_adr hM) wm_326 wm_327 wm_328 wm_34 wm_329 ⟨rfl, by decide, by decide, by decide +kernel⟩ rfl ⟨hrm.1, hrm.2.1⟩ ⟨Nat.le_trans (Nat.add_le_add_right hrm.2.2.1 1) (by decide), Nat.le_trans (Nat.add_le_add_left hrm.2.2.2 _) (by decide)⟩ ⟨by decide, by decide⟩ hK hP hD hS (fun _ h => Or.inl h) rfl rfl rfl hl.1 rfl (Nat.le_of_ble_eq_true rfl) d_L_read_4 (fun v w' H locs hZ hP1 hD1 hS h5 h6 => ?_)
  obtain ⟨⟨rfl, hZ⟩, hAD⟩ := hZ
  have hPo1 : va_P D cl_all (hq_o oa cL ov) H := hPo.kept (fun k q hk => by
    have hz : k < 1 := (List.getElem?_eq_some_iff.mp hk).1
    rw [show k = 0 by omega] at hk
    cases hk
    exact h6 oa hol hoA)
  have had : w'.map (fun q => q.1) = (gw_G ca hs rt wd ob ln kd qt df mk fd fc oc cn).map (fun q => q.1) := hAD
  refine lv_i2l hx hb d_L_read_7 rfl ?_
  refine hq_last hx hb hKo hPo1 hP1 (hq_in gw_G_in had hne) hS (Or.inr rfl) d_L_read_8 (fun H locs hPo hP hS => ?_)
  refine lv_goto (tgt := 18) hx hb d_L_read_9 (by decide) ?_
  refine lv_iconst (v := 0) hx hb d_L_read_18 (by decide +kernel) ?_
  refine W.widen (k := 1) (n := 6) (by decide) (by decide) ?_
  exact W.iret hx hb hrt (fun t ht0 _ => ⟨0, w', vp_updL ov 0 r.toInt64, rfl, ⟨rfl, hZ, rfl⟩, had, by rw [ht0]; exact hP, by rw [ht0]; exact hPo, hS.F ht0⟩) hS.2.2 d_L_read_19 hlk

set_option maxHeartbeats 4000000 in
set_option maxRecDepth 100000 in
theorem h_read_x1 (l : Launch) (D : va_G) (ca : Nat → ClassId) (hs : Nat → Nat) (rt : Nat → Int32) (wd : Nat → Int32) (ob : Nat → Nat) (ln : Nat → Nat) (kd : Nat → Nat) (qt : Nat → Bool) (df : Nat → Bool) (mk : Nat → Bool) (fd : Nat → Nat) (fc : Nat) (oc : Nat) (cn : Nat) (cL : ClassId) (oa : Nat) (ov : Nat → Int64) (a1 : Int32) (rm : Room) (hrm : rm.cells = 1 ∧ rm.slots = 6 ∧ rm.frames ≤ 13 ∧ rm.locals ≤ 400) (Z : va_W → Prop) (hM : xt_M l y_G_read (Cond.code y_G_read b_G_read 2 (some .int) :: wa_all) rm (va_Pc [.ref (hs 0), .int a1] (gt_I D ca (gw_G ca hs rt wd ob ln kd qt df mk fd fc oc cn))) (gx_T D cl_all (gx_A hs 10) (gw_G ca hs rt wd ob ln kd qt df mk fd fc oc cn) X_IOOBE Z) 1 6 (gx_A hs 10)) : Met l y_L_read (Cond.codeWith y_L_read b_L_read 4 (some .int) [(0, 9, 12, 21), (0, 9, 15, 15)] :: wa_all) rm_h (va_Pc [.ref (hs 0), .int a1, .ref oa] (hq_I D ca hs cL oa (gw_G ca hs rt wd ob ln kd qt df mk fd fc oc cn) ov)) (hq_Q D hs cL oa (gw_G ca hs rt wd ob ln kd qt df mk fd fc oc cn) (fun k w' ov' => k = 1 ∧ Z w' ∧ ov' = ov)) 1 6 (hq_A hs oa) := by
  refine hq_met (by decide) (Nat.le_of_ble_eq_true rfl) ?_
  intro p e s m args below meth c ls hx hb hml ht hown htb hlk hrt hI hl
  obtain ⟨⟨hP, hK, hD⟩, ⟨hPo, hKo, hDo⟩, hne, hT, hN⟩ := hI
  have hl : lv_has ls 4 [(0, .ref (hs 0)), (1, .int a1), (2, .ref oa)] := hl
  have hown : s.vm.findClass R_L = some m.cls := hown
  have hS : va_S (hq_A hs oa) s.heap s.heap [] := va_S.rf
  have hD : va_D (hq_A hs oa) (gw_G ca hs rt wd ob ln kd qt df mk fd fc oc cn) := ⟨hD.1, fun k q hk => Or.inl (gw_G_in k q hk)⟩
  have hoA : ¬ gx_A hs 10 oa := fun ⟨k, hk, e⟩ => hne k hk e.symm
  have hol : oa < s.heap.size := va_lt hPo 0 _ rfl
  refine lv_aload_n hx hb d_L_read_0 rfl (lv_at hl 2 rfl) ?_
  refine lv_iconst (v := 0) hx hb d_L_read_1 (by decide +kernel) ?_
  refine lv_aload_n hx hb d_L_read_2 rfl (lv_at hl 0 rfl) ?_
  refine lv_iload_n hx hb d_L_read_3 rfl (lv_at hl 1 rfl) ?_
  refine xg_catch1 (X := X_IOOBE) (xt_runV (y := y_G_read) (ws := Cond.code y_G_read b_G_read 2 (some .int) :: wa_all) (own := R_L) (C := R_G) (b := hs 0) (n := 1) (As := [.int a1]) (rest := [.int 0, .ref oa]) ⟨hx, hb, hml, hown, ht⟩ hM (cwV 1 ht (wg_cons hg_all wm_326 (wg_cons hg_all wm_327 (wg_cons hg_all wm_328 (wg_cons hg_all wm_34 (wg_cons hg_all wm_329 hg_all))))) rfl hrm.1 hrm.2.1 ⟨rfl, by decide, by decide, by decide +kernel⟩ ⟨Nat.le_trans (Nat.add_le_add_right hrm.2.2.1 1) (by decide), Nat.le_trans (Nat.add_le_add_left hrm.2.2.2 _) (by decide)⟩) ⟨gt_blind, va_recv (q := (R_G, F_G, 12)) hK hP (ci := 0) rfl (q0 := 0) rfl, fun U hU hW => ⟨rfl, ⟨by rw [hU]; exact hP, va_K.moved hW.alike hK, hD.weaken (fun _ _ _ _ => trivial)⟩, xs_moved hW (by rw [hU]; exact xs_H.refl _) hT⟩⟩ rfl rfl hl.1 rfl (lv_room (Nat.le_of_ble_eq_true rfl)) d_L_read_4 ⟨by decide, by decide⟩) xg_T hown (ht _ wm_297) htb ⟨by decide, by decide⟩ (by decide) (fun x st₀ t L h0 hq hA hL => ?_)
  obtain ⟨x', cell, w', g1, g2, g3, g4, hZ, had, hP1, hF⟩ := hq
  unfold va_F at hF
  rw [h0] at hF
  have hPo1 : va_P D cl_all (hq_o oa cL ov) t.heap := hPo.kept (fun k q hk => by
    have hz : k < 1 := (List.getElem?_eq_some_iff.mp hk).1
    rw [show k = 0 by omega] at hk
    cases hk
    exact hF.2 oa hol hoA)
  refine lv_astore_n (lv' := [(3, .ref x), (0, .ref (hs 0)), (1, .int a1), (2, .ref oa)]) hx hb d_L_read_12 rfl hl (by decide) rfl (fun ls hl => ?_)
  refine lv_iconst (v := 1) hx hb d_L_read_13 (by decide +kernel) ?_
  exact W.iret hx hb hrt (fun t2 ht0 _ => ⟨1, w', ov, rfl, ⟨rfl, hZ, rfl⟩, had, by rw [ht0]; exact hP1, by rw [ht0]; exact hPo1, by rw [ht0]; exact hF.1, fun q q1 q2 => by rw [ht0]; exact hF.2 q q1 (fun h => q2 (Or.inl h))⟩) (fun q hq => Or.inl (hL q hq)) d_L_read_14 hlk

set_option maxHeartbeats 4000000 in
set_option maxRecDepth 100000 in
theorem h_read_x2 (l : Launch) (D : va_G) (ca : Nat → ClassId) (hs : Nat → Nat) (rt : Nat → Int32) (wd : Nat → Int32) (ob : Nat → Nat) (ln : Nat → Nat) (kd : Nat → Nat) (qt : Nat → Bool) (df : Nat → Bool) (mk : Nat → Bool) (fd : Nat → Nat) (fc : Nat) (oc : Nat) (cn : Nat) (cL : ClassId) (oa : Nat) (ov : Nat → Int64) (a1 : Int32) (rm : Room) (hrm : rm.cells = 1 ∧ rm.slots = 6 ∧ rm.frames ≤ 13 ∧ rm.locals ≤ 400) (Z : va_W → Prop) (hM : xt_M l y_G_read (Cond.code y_G_read b_G_read 2 (some .int) :: wa_all) rm (va_Pc [.ref (hs 0), .int a1] (gt_I D ca (gw_G ca hs rt wd ob ln kd qt df mk fd fc oc cn))) (gx_T D cl_all (gx_A hs 10) (gw_G ca hs rt wd ob ln kd qt df mk fd fc oc cn) X_ISE Z) 1 6 (gx_A hs 10)) : Met l y_L_read (Cond.codeWith y_L_read b_L_read 4 (some .int) [(0, 9, 12, 21), (0, 9, 15, 15)] :: wa_all) rm_h (va_Pc [.ref (hs 0), .int a1, .ref oa] (hq_I D ca hs cL oa (gw_G ca hs rt wd ob ln kd qt df mk fd fc oc cn) ov)) (hq_Q D hs cL oa (gw_G ca hs rt wd ob ln kd qt df mk fd fc oc cn) (fun k w' ov' => k = 2 ∧ Z w' ∧ ov' = ov)) 1 6 (hq_A hs oa) := by
  refine hq_met (by decide) (Nat.le_of_ble_eq_true rfl) ?_
  intro p e s m args below meth c ls hx hb hml ht hown htb hlk hrt hI hl
  obtain ⟨⟨hP, hK, hD⟩, ⟨hPo, hKo, hDo⟩, hne, hT, hN⟩ := hI
  have hl : lv_has ls 4 [(0, .ref (hs 0)), (1, .int a1), (2, .ref oa)] := hl
  have hown : s.vm.findClass R_L = some m.cls := hown
  have hS : va_S (hq_A hs oa) s.heap s.heap [] := va_S.rf
  have hD : va_D (hq_A hs oa) (gw_G ca hs rt wd ob ln kd qt df mk fd fc oc cn) := ⟨hD.1, fun k q hk => Or.inl (gw_G_in k q hk)⟩
  have hoA : ¬ gx_A hs 10 oa := fun ⟨k, hk, e⟩ => hne k hk e.symm
  have hol : oa < s.heap.size := va_lt hPo 0 _ rfl
  refine lv_aload_n hx hb d_L_read_0 rfl (lv_at hl 2 rfl) ?_
  refine lv_iconst (v := 0) hx hb d_L_read_1 (by decide +kernel) ?_
  refine lv_aload_n hx hb d_L_read_2 rfl (lv_at hl 0 rfl) ?_
  refine lv_iload_n hx hb d_L_read_3 rfl (lv_at hl 1 rfl) ?_
  refine xg_catch2 (X := X_ISE) (Y := X_IOOBE) (xt_runV (y := y_G_read) (ws := Cond.code y_G_read b_G_read 2 (some .int) :: wa_all) (own := R_L) (C := R_G) (b := hs 0) (n := 1) (As := [.int a1]) (rest := [.int 0, .ref oa]) ⟨hx, hb, hml, hown, ht⟩ hM (cwV 1 ht (wg_cons hg_all wm_326 (wg_cons hg_all wm_327 (wg_cons hg_all wm_328 (wg_cons hg_all wm_34 (wg_cons hg_all wm_329 hg_all))))) rfl hrm.1 hrm.2.1 ⟨rfl, by decide, by decide, by decide +kernel⟩ ⟨Nat.le_trans (Nat.add_le_add_right hrm.2.2.1 1) (by decide), Nat.le_trans (Nat.add_le_add_left hrm.2.2.2 _) (by decide)⟩) ⟨gt_blind, va_recv (q := (R_G, F_G, 12)) hK hP (ci := 0) rfl (q0 := 0) rfl, fun U hU hW => ⟨rfl, ⟨by rw [hU]; exact hP, va_K.moved hW.alike hK, hD.weaken (fun _ _ _ _ => trivial)⟩, xs_moved hW (by rw [hU]; exact xs_H.refl _) hT⟩⟩ rfl rfl hl.1 rfl (lv_room (Nat.le_of_ble_eq_true rfl)) d_L_read_4 ⟨by decide, by decide⟩) xg_T hN.2 hown (ht _ wm_297) (ht _ wm_246) htb ⟨by decide, by decide⟩ (by decide) (by decide) (fun x st₀ t L h0 hq hA hL => ?_)
  obtain ⟨x', cell, w', g1, g2, g3, g4, hZ, had, hP1, hF⟩ := hq
  unfold va_F at hF
  rw [h0] at hF
  have hPo1 : va_P D cl_all (hq_o oa cL ov) t.heap := hPo.kept (fun k q hk => by
    have hz : k < 1 := (List.getElem?_eq_some_iff.mp hk).1
    rw [show k = 0 by omega] at hk
    cases hk
    exact hF.2 oa hol hoA)
  refine lv_astore_n (lv' := [(3, .ref x), (0, .ref (hs 0)), (1, .int a1), (2, .ref oa)]) hx hb d_L_read_15 rfl hl (by decide) rfl (fun ls hl => ?_)
  refine lv_iconst (v := 2) hx hb d_L_read_16 (by decide +kernel) ?_
  exact W.iret hx hb hrt (fun t2 ht0 _ => ⟨2, w', ov, rfl, ⟨rfl, hZ, rfl⟩, had, by rw [ht0]; exact hP1, by rw [ht0]; exact hPo1, by rw [ht0]; exact hF.1, fun q q1 q2 => by rw [ht0]; exact hF.2 q q1 (fun h => q2 (Or.inl h))⟩) (fun q hq => Or.inl (hL q hq)) d_L_read_17 hlk

set_option maxHeartbeats 4000000 in
set_option maxRecDepth 100000 in
theorem h_write_ok (l : Launch) (D : va_G) (ca : Nat → ClassId) (hs : Nat → Nat) (rt : Nat → Int32) (wd : Nat → Int32) (ob : Nat → Nat) (ln : Nat → Nat) (kd : Nat → Nat) (qt : Nat → Bool) (df : Nat → Bool) (mk : Nat → Bool) (fd : Nat → Nat) (fc : Nat) (oc : Nat) (cn : Nat) (cL : ClassId) (oa : Nat) (ov : Nat → Int64) (a1 a2 : Int32) (rm : Room) (hrm : rm.cells = 0 ∧ rm.slots = 0 ∧ rm.frames ≤ 13 ∧ rm.locals ≤ 400) (r : Int32) (Z : va_W → Prop) (hM : Met l y_G_write (Cond.code y_G_write b_G_write 4 (some .int) :: wa_all) rm (va_Pc [.ref (hs 0), .int a1, .int a2] (gx_I D cl_all (ty_G ca) (gw_G ca hs rt wd ob ln kd qt df mk fd fc oc cn))) (gx_Q D cl_all (gx_A hs 10) (gw_G ca hs rt wd ob ln kd qt df mk fd fc oc cn) (fun v w' => v = some (.int r) ∧ Z w')) 0 0 (gx_A hs 10)) : Met l y_L_write (Cond.codeWith y_L_write b_L_write 5 (some .int) [(0, 10, 13, 21), (0, 10, 17, 15)] :: wa_all) rm_h (va_Pc [.ref (hs 0), .int a1, .int a2, .ref oa] (hq_I D ca hs cL oa (gw_G ca hs rt wd ob ln kd qt df mk fd fc oc cn) ov)) (hq_Q D hs cL oa (gw_G ca hs rt wd ob ln kd qt df mk fd fc oc cn) (fun k w' ov' => k = 0 ∧ Z w' ∧ ov' 0 = r.toInt64)) 1 6 (hq_A hs oa) := by
  refine hq_met (by decide) (Nat.le_of_ble_eq_true rfl) ?_
  intro p e s m args below meth c ls hx hb hml ht hown htb hlk hrt hI hl
  obtain ⟨⟨hP, hK, hD⟩, ⟨hPo, hKo, hDo⟩, hne, hT, hN⟩ := hI
  have hl : lv_has ls 5 [(0, .ref (hs 0)), (1, .int a1), (2, .int a2), (3, .ref oa)] := hl
  have hown : s.vm.findClass R_L = some m.cls := hown
  have hS : va_S (hq_A hs oa) s.heap s.heap [] := va_S.rf
  have hD : va_D (hq_A hs oa) (gw_G ca hs rt wd ob ln kd qt df mk fd fc oc cn) := ⟨hD.1, fun k q hk => Or.inl (gw_G_in k q hk)⟩
  have hoA : ¬ gx_A hs 10 oa := fun ⟨k, hk, e⟩ => hne k hk e.symm
  have hol : oa < s.heap.size := va_lt hPo 0 _ rfl
  refine lv_aload_n hx hb d_L_write_0 rfl (lv_at hl 3 rfl) ?_
  refine lv_iconst (v := 0) hx hb d_L_write_1 (by decide +kernel) ?_
  refine lv_aload_n hx hb d_L_write_2 rfl (lv_at hl 0 rfl) ?_
  refine lv_iload_n hx hb d_L_write_3 rfl (lv_at hl 1 rfl) ?_
  refine lv_iload_n hx hb d_L_write_4 rfl (lv_at hl 2 rfl) ?_
  refine gx_cM (n := 2) (q0 := 0) (ci := 0) (q := (R_G, F_G, 12)) (C := R_G) (own := R_L) (As := [.int a1, .int a2]) (rest := [.int 0, .ref oa]) ⟨hx, hb, hml, hown, ht⟩ hg_all (hq_adr hM) wm_336 wm_337 wm_338 wm_34 wm_339 ⟨rfl, by decide, by decide, by decide +kernel⟩ rfl ⟨hrm.1, hrm.2.1⟩ ⟨Nat.le_trans (Nat.add_le_add_right hrm.2.2.1 1) (by decide), Nat.le_trans (Nat.add_le_add_left hrm.2.2.2 _) (by decide)⟩ ⟨by decide, by decide⟩ hK hP hD hS (fun _ h => Or.inl h) rfl rfl rfl hl.1 rfl (Nat.le_of_ble_eq_true rfl) d_L_write_5 (fun v w' H locs hZ hP1 hD1 hS h5 h6 => ?_)
  obtain ⟨⟨rfl, hZ⟩, hAD⟩ := hZ
  have hPo1 : va_P D cl_all (hq_o oa cL ov) H := hPo.kept (fun k q hk => by
    have hz : k < 1 := (List.getElem?_eq_some_iff.mp hk).1
    rw [show k = 0 by omega] at hk
    cases hk
    exact h6 oa hol hoA)
  have had : w'.map (fun q => q.1) = (gw_G ca hs rt wd ob ln kd qt df mk fd fc oc cn).map (fun q => q.1) := hAD
  refine lv_i2l hx hb d_L_write_8 rfl ?_
  refine hq_last hx hb hKo hPo1 hP1 (hq_in gw_G_in had hne) hS (Or.inr rfl) d_L_write_9 (fun H locs hPo hP hS => ?_)
  refine lv_goto (tgt := 21) hx hb d_L_write_10 (by decide) ?_
  refine lv_iconst (v := 0) hx hb d_L_write_21 (by decide +kernel) ?_
  refine W.widen (k := 1) (n := 6) (by decide) (by decide) ?_
  exact W.iret hx hb hrt (fun t ht0 _ => ⟨0, w', vp_updL ov 0 r.toInt64, rfl, ⟨rfl, hZ, rfl⟩, had, by rw [ht0]; exact hP, by rw [ht0]; exact hPo, hS.F ht0⟩) hS.2.2 d_L_write_22 hlk

set_option maxHeartbeats 4000000 in
set_option maxRecDepth 100000 in
theorem h_write_x1 (l : Launch) (D : va_G) (ca : Nat → ClassId) (hs : Nat → Nat) (rt : Nat → Int32) (wd : Nat → Int32) (ob : Nat → Nat) (ln : Nat → Nat) (kd : Nat → Nat) (qt : Nat → Bool) (df : Nat → Bool) (mk : Nat → Bool) (fd : Nat → Nat) (fc : Nat) (oc : Nat) (cn : Nat) (cL : ClassId) (oa : Nat) (ov : Nat → Int64) (a1 a2 : Int32) (rm : Room) (hrm : rm.cells = 1 ∧ rm.slots = 6 ∧ rm.frames ≤ 13 ∧ rm.locals ≤ 400) (Z : va_W → Prop) (hM : xt_M l y_G_write (Cond.code y_G_write b_G_write 4 (some .int) :: wa_all) rm (va_Pc [.ref (hs 0), .int a1, .int a2] (gt_I D ca (gw_G ca hs rt wd ob ln kd qt df mk fd fc oc cn))) (gx_T D cl_all (gx_A hs 10) (gw_G ca hs rt wd ob ln kd qt df mk fd fc oc cn) X_IOOBE Z) 1 6 (gx_A hs 10)) : Met l y_L_write (Cond.codeWith y_L_write b_L_write 5 (some .int) [(0, 10, 13, 21), (0, 10, 17, 15)] :: wa_all) rm_h (va_Pc [.ref (hs 0), .int a1, .int a2, .ref oa] (hq_I D ca hs cL oa (gw_G ca hs rt wd ob ln kd qt df mk fd fc oc cn) ov)) (hq_Q D hs cL oa (gw_G ca hs rt wd ob ln kd qt df mk fd fc oc cn) (fun k w' ov' => k = 1 ∧ Z w' ∧ ov' = ov)) 1 6 (hq_A hs oa) := by
  refine hq_met (by decide) (Nat.le_of_ble_eq_true rfl) ?_
  intro p e s m args below meth c ls hx hb hml ht hown htb hlk hrt hI hl
  obtain ⟨⟨hP, hK, hD⟩, ⟨hPo, hKo, hDo⟩, hne, hT, hN⟩ := hI
  have hl : lv_has ls 5 [(0, .ref (hs 0)), (1, .int a1), (2, .int a2), (3, .ref oa)] := hl
  have hown : s.vm.findClass R_L = some m.cls := hown
  have hS : va_S (hq_A hs oa) s.heap s.heap [] := va_S.rf
  have hD : va_D (hq_A hs oa) (gw_G ca hs rt wd ob ln kd qt df mk fd fc oc cn) := ⟨hD.1, fun k q hk => Or.inl (gw_G_in k q hk)⟩
  have hoA : ¬ gx_A hs 10 oa := fun ⟨k, hk, e⟩ => hne k hk e.symm
  have hol : oa < s.heap.size := va_lt hPo 0 _ rfl
  refine lv_aload_n hx hb d_L_write_0 rfl (lv_at hl 3 rfl) ?_
  refine lv_iconst (v := 0) hx hb d_L_write_1 (by decide +kernel) ?_
  refine lv_aload_n hx hb d_L_write_2 rfl (lv_at hl 0 rfl) ?_
  refine lv_iload_n hx hb d_L_write_3 rfl (lv_at hl 1 rfl) ?_
  refine lv_iload_n hx hb d_L_write_4 rfl (lv_at hl 2 rfl) ?_
  refine xg_catch1 (X := X_IOOBE) (xt_runV (y := y_G_write) (ws := Cond.code y_G_write b_G_write 4 (some .int) :: wa_all) (own := R_L) (C := R_G) (b := hs 0) (n := 2) (As := [.int a1, .int a2]) (rest := [.int 0, .ref oa]) ⟨hx, hb, hml, hown, ht⟩ hM (cwV 2 ht (wg_cons hg_all wm_336 (wg_cons hg_all wm_337 (wg_cons hg_all wm_338 (wg_cons hg_all wm_34 (wg_cons hg_all wm_339 hg_all))))) rfl hrm.1 hrm.2.1 ⟨rfl, by decide, by decide, by decide +kernel⟩ ⟨Nat.le_trans (Nat.add_le_add_right hrm.2.2.1 1) (by decide), Nat.le_trans (Nat.add_le_add_left hrm.2.2.2 _) (by decide)⟩) ⟨gt_blind, va_recv (q := (R_G, F_G, 12)) hK hP (ci := 0) rfl (q0 := 0) rfl, fun U hU hW => ⟨rfl, ⟨by rw [hU]; exact hP, va_K.moved hW.alike hK, hD.weaken (fun _ _ _ _ => trivial)⟩, xs_moved hW (by rw [hU]; exact xs_H.refl _) hT⟩⟩ rfl rfl hl.1 rfl (lv_room (Nat.le_of_ble_eq_true rfl)) d_L_write_5 ⟨by decide, by decide⟩) xg_T hown (ht _ wm_297) htb ⟨by decide, by decide⟩ (by decide) (fun x st₀ t L h0 hq hA hL => ?_)
  obtain ⟨x', cell, w', g1, g2, g3, g4, hZ, had, hP1, hF⟩ := hq
  unfold va_F at hF
  rw [h0] at hF
  have hPo1 : va_P D cl_all (hq_o oa cL ov) t.heap := hPo.kept (fun k q hk => by
    have hz : k < 1 := (List.getElem?_eq_some_iff.mp hk).1
    rw [show k = 0 by omega] at hk
    cases hk
    exact hF.2 oa hol hoA)
  refine lv_astore (lv' := [(4, .ref x), (0, .ref (hs 0)), (1, .int a1), (2, .int a2), (3, .ref oa)]) hx hb d_L_write_13 hl (by decide) rfl (fun ls hl => ?_)
  refine lv_iconst (v := 1) hx hb d_L_write_15 (by decide +kernel) ?_
  exact W.iret hx hb hrt (fun t2 ht0 _ => ⟨1, w', ov, rfl, ⟨rfl, hZ, rfl⟩, had, by rw [ht0]; exact hP1, by rw [ht0]; exact hPo1, by rw [ht0]; exact hF.1, fun q q1 q2 => by rw [ht0]; exact hF.2 q q1 (fun h => q2 (Or.inl h))⟩) (fun q hq => Or.inl (hL q hq)) d_L_write_16 hlk

set_option maxHeartbeats 4000000 in
set_option maxRecDepth 100000 in
theorem h_write_x2 (l : Launch) (D : va_G) (ca : Nat → ClassId) (hs : Nat → Nat) (rt : Nat → Int32) (wd : Nat → Int32) (ob : Nat → Nat) (ln : Nat → Nat) (kd : Nat → Nat) (qt : Nat → Bool) (df : Nat → Bool) (mk : Nat → Bool) (fd : Nat → Nat) (fc : Nat) (oc : Nat) (cn : Nat) (cL : ClassId) (oa : Nat) (ov : Nat → Int64) (a1 a2 : Int32) (rm : Room) (hrm : rm.cells = 1 ∧ rm.slots = 6 ∧ rm.frames ≤ 13 ∧ rm.locals ≤ 400) (Z : va_W → Prop) (hM : xt_M l y_G_write (Cond.code y_G_write b_G_write 4 (some .int) :: wa_all) rm (va_Pc [.ref (hs 0), .int a1, .int a2] (gt_I D ca (gw_G ca hs rt wd ob ln kd qt df mk fd fc oc cn))) (gx_T D cl_all (gx_A hs 10) (gw_G ca hs rt wd ob ln kd qt df mk fd fc oc cn) X_ISE Z) 1 6 (gx_A hs 10)) : Met l y_L_write (Cond.codeWith y_L_write b_L_write 5 (some .int) [(0, 10, 13, 21), (0, 10, 17, 15)] :: wa_all) rm_h (va_Pc [.ref (hs 0), .int a1, .int a2, .ref oa] (hq_I D ca hs cL oa (gw_G ca hs rt wd ob ln kd qt df mk fd fc oc cn) ov)) (hq_Q D hs cL oa (gw_G ca hs rt wd ob ln kd qt df mk fd fc oc cn) (fun k w' ov' => k = 2 ∧ Z w' ∧ ov' = ov)) 1 6 (hq_A hs oa) := by
  refine hq_met (by decide) (Nat.le_of_ble_eq_true rfl) ?_
  intro p e s m args below meth c ls hx hb hml ht hown htb hlk hrt hI hl
  obtain ⟨⟨hP, hK, hD⟩, ⟨hPo, hKo, hDo⟩, hne, hT, hN⟩ := hI
  have hl : lv_has ls 5 [(0, .ref (hs 0)), (1, .int a1), (2, .int a2), (3, .ref oa)] := hl
  have hown : s.vm.findClass R_L = some m.cls := hown
  have hS : va_S (hq_A hs oa) s.heap s.heap [] := va_S.rf
  have hD : va_D (hq_A hs oa) (gw_G ca hs rt wd ob ln kd qt df mk fd fc oc cn) := ⟨hD.1, fun k q hk => Or.inl (gw_G_in k q hk)⟩
  have hoA : ¬ gx_A hs 10 oa := fun ⟨k, hk, e⟩ => hne k hk e.symm
  have hol : oa < s.heap.size := va_lt hPo 0 _ rfl
  refine lv_aload_n hx hb d_L_write_0 rfl (lv_at hl 3 rfl) ?_
  refine lv_iconst (v := 0) hx hb d_L_write_1 (by decide +kernel) ?_
  refine lv_aload_n hx hb d_L_write_2 rfl (lv_at hl 0 rfl) ?_
  refine lv_iload_n hx hb d_L_write_3 rfl (lv_at hl 1 rfl) ?_
  refine lv_iload_n hx hb d_L_write_4 rfl (lv_at hl 2 rfl) ?_
  refine xg_catch2 (X := X_ISE) (Y := X_IOOBE) (xt_runV (y := y_G_write) (ws := Cond.code y_G_write b_G_write 4 (some .int) :: wa_all) (own := R_L) (C := R_G) (b := hs 0) (n := 2) (As := [.int a1, .int a2]) (rest := [.int 0, .ref oa]) ⟨hx, hb, hml, hown, ht⟩ hM (cwV 2 ht (wg_cons hg_all wm_336 (wg_cons hg_all wm_337 (wg_cons hg_all wm_338 (wg_cons hg_all wm_34 (wg_cons hg_all wm_339 hg_all))))) rfl hrm.1 hrm.2.1 ⟨rfl, by decide, by decide, by decide +kernel⟩ ⟨Nat.le_trans (Nat.add_le_add_right hrm.2.2.1 1) (by decide), Nat.le_trans (Nat.add_le_add_left hrm.2.2.2 _) (by decide)⟩) ⟨gt_blind, va_recv (q := (R_G, F_G, 12)) hK hP (ci := 0) rfl (q0 := 0) rfl, fun U hU hW => ⟨rfl, ⟨by rw [hU]; exact hP, va_K.moved hW.alike hK, hD.weaken (fun _ _ _ _ => trivial)⟩, xs_moved hW (by rw [hU]; exact xs_H.refl _) hT⟩⟩ rfl rfl hl.1 rfl (lv_room (Nat.le_of_ble_eq_true rfl)) d_L_write_5 ⟨by decide, by decide⟩) xg_T hN.2 hown (ht _ wm_297) (ht _ wm_246) htb ⟨by decide, by decide⟩ (by decide) (by decide) (fun x st₀ t L h0 hq hA hL => ?_)
  obtain ⟨x', cell, w', g1, g2, g3, g4, hZ, had, hP1, hF⟩ := hq
  unfold va_F at hF
  rw [h0] at hF
  have hPo1 : va_P D cl_all (hq_o oa cL ov) t.heap := hPo.kept (fun k q hk => by
    have hz : k < 1 := (List.getElem?_eq_some_iff.mp hk).1
    rw [show k = 0 by omega] at hk
    cases hk
    exact hF.2 oa hol hoA)
  refine lv_astore (lv' := [(4, .ref x), (0, .ref (hs 0)), (1, .int a1), (2, .int a2), (3, .ref oa)]) hx hb d_L_write_17 hl (by decide) rfl (fun ls hl => ?_)
  refine lv_iconst (v := 2) hx hb d_L_write_19 (by decide +kernel) ?_
  exact W.iret hx hb hrt (fun t2 ht0 _ => ⟨2, w', ov, rfl, ⟨rfl, hZ, rfl⟩, had, by rw [ht0]; exact hP1, by rw [ht0]; exact hPo1, by rw [ht0]; exact hF.1, fun q q1 q2 => by rw [ht0]; exact hF.2 q q1 (fun h => q2 (Or.inl h))⟩) (fun q hq => Or.inl (hL q hq)) d_L_write_20 hlk

