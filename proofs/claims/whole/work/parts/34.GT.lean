/-! the class: what throws -/
theorem vp_none (cA : ClassId) (a : vp_A) : (vp_cell cA a).vm = .none := by
  unfold vp_cell
  split <;> rfl
theorem xs_va {D : va_G} {cl : List vw_C} {w : va_W} {H : Heap} (hP : va_P D cl w H) {k : Nat} {q : Nat × va_E} (h : w[k]? = some q) {cell : Cell} (hc : H[q.1]? = some cell) : cell.vm.isStatics = false := by
  have h1 := hP k q h
  obtain ⟨a, e⟩ := q
  cases e with
  | inl x =>
    have h2 : H[a]? = some (vp_cell x.1 x.2) := h1
    rw [show H[a]? = some cell from hc] at h2
    cases h2
    rw [vp_none]
    rfl
  | inr x =>
    obtain ⟨r, -, c2, g1, -, g2, -⟩ := h1
    rw [show H[a]? = some cell from hc] at g1
    cases g1
    rw [g2]
    rfl
theorem gw_G_at {ca : Nat → ClassId} {hs : Nat → Nat} {rt wd : Nat → Int32} {ob ln kd : Nat → Nat} {qt df mk : Nat → Bool} {fd : Nat → Nat} {fc oc cn : Nat} {q : Nat} (h : gx_A hs 10 q) : ∃ (k : Nat) (e : va_E), (gw_G ca hs rt wd ob ln kd qt df mk fd fc oc cn)[k]? = some (q, e) := by
  obtain ⟨k, hk, rfl⟩ := h
  have : k = 0 ∨ k = 1 ∨ k = 2 ∨ k = 3 ∨ k = 4 ∨ k = 5 ∨ k = 6 ∨ k = 7 ∨ k = 8 ∨ k = 9 := by omega
  rcases this with rfl | rfl | rfl | rfl | rfl | rfl | rfl | rfl | rfl | rfl
  · exact ⟨0, _, rfl⟩
  · exact ⟨1, _, rfl⟩
  · exact ⟨2, _, rfl⟩
  · exact ⟨3, _, rfl⟩
  · exact ⟨4, _, rfl⟩
  · exact ⟨5, _, rfl⟩
  · exact ⟨6, _, rfl⟩
  · exact ⟨7, _, rfl⟩
  · exact ⟨8, _, rfl⟩
  · exact ⟨9, _, rfl⟩
theorem xs_end {D : va_G} {cl : List vw_C} {A : Nat → Prop} {w w' : va_W} {X : String} {Z : va_W → Prop} {args : Array Value} {s : State} {H : Heap} {locs : List Loc} (hP : va_P D cl w' H) (hZ : Z w') (ha : w'.map (fun q => q.1) = w.map (fun q => q.1)) (hS : va_S A s.heap H locs) (hlt : ∀ (k : Nat) (q : Nat × va_E), w'[k]? = some q → q.1 < H.size) :
    ∀ (t : State) (cell : Cell), t.heap.size = H.size + 1 → (∀ q : Nat, q < H.size → t.heap[q]? = H[q]?) → t.heap[H.size]? = some cell → cell.vm = .none → t.vm.findClass X = some cell.cls → s.WarmedH t.vm → gx_T D cl A w X Z args s (.threw H.size) t :=
  fun t cell h1 h2 h3 h4 h5 _ => ⟨H.size, cell, w', rfl, h3, h4, h5, hZ, ha, hP.kept (fun k q hk => h2 _ (hlt k q hk)), by rw [h1]; have := hS.1; omega, fun q g1 g2 => by rw [h2 q (Nat.lt_of_lt_of_le g1 hS.1)]; exact hS.2.1 q g1 g2⟩
theorem va_lt {D : va_G} {cl : List vw_C} {w : va_W} {H : Heap} (hP : va_P D cl w H) : ∀ (k : Nat) (q : Nat × va_E), w[k]? = some q → q.1 < H.size := by
  intro k q h
  have h1 := hP k q h
  obtain ⟨a, e⟩ := q
  cases e with
  | inl x => exact (Array.getElem?_eq_some_iff.mp (show H[a]? = some (vp_cell x.1 x.2) from h1)).1
  | inr x =>
    obtain ⟨r, -, c2, g1, -⟩ := h1
    exact (Array.getElem?_eq_some_iff.mp g1).1
section GT
variable {l : Launch}
theorem gx_thr {y : MethodName} {ws' : List Cond} {rm : Room} {cc : ByteArray} {maxL : Nat} {ret : Option FieldType} {av : List Value} {I : State → Prop} {Qc : Array Value → State → Outcome → State → Prop} {mc ms : Nat} {free : Addr → Prop}
    (hy : plainName y.cls = true) (hlen : (lg_sl av).length ≤ maxL)
    (body : ∀ (p : Program) (e : Env) (s : State) (m : MethodId) (args : Array Value) (below : List Frame) (meth : Method) (c : Code) (ls : Array Slot), p.tables.exec = Jvm.exec → c.code = cc → c.maxLocals = maxL →
      (∀ w ∈ ws', w.before args s = true) → s.vm.findClass y.cls = some m.cls → c.exceptionTable.isEmpty = true → meth.locks = false → I s → lv_has ls maxL (lv_args 0 av) →
      W p l e rm s m args below meth c s.heap [] 0 0 (xt_Q below Qc args s mc ms free) (F0 m 0 ls [])) :
    xt_M l y (Cond.code y cc maxL ret :: ws') rm (va_Pc av I) Qc mc ms free := by
  refine xt_ofW (cc := cc) (maxL := maxL) (ret := ret) hy rfl ?_
  intro p e s m args below meth c s₁ B hml hv
  obtain ⟨rfl, hI⟩ := hv
  have hl := lv_entry av (n := maxL) hlen
  rw [lg_entry_eq]
  exact body p e s m _ below meth c _ B.exec B.bytes hml (fun w h => atoms_spec (ws := Cond.code y cc maxL ret :: ws') B.pre w (List.mem_cons_of_mem _ h)) (findClass_of_methodNamed B.named)
    (B.noHandlers (atoms_spec (ws := Cond.code y cc maxL ret :: ws') B.pre _ List.mem_cons_self)) B.notSynchronized hI hl
end GT
theorem xs_blind {av : List Value} : FrameBlind (va_Pc av xs_T) := fun _ U g mk q => ⟨q.1, xs_moved (u := U) (U := U.calling g mk _) (State.WarmedH.refl U) (xs_H.refl U.heap) q.2⟩
def gt_I (D : va_G) (ca : Nat → ClassId) (w : va_W) (U : State) : Prop := gx_I D cl_all (ty_G ca) w U ∧ xs_T U
theorem gt_blind {av : List Value} {D : va_G} {ca : Nat → ClassId} {w : va_W} : FrameBlind (va_Pc av (gt_I D ca w)) := fun _ U g mk q => ⟨q.1, (gx_blind (av := av) _ U g mk ⟨q.1, q.2.1⟩).2, (xs_blind (av := av) _ U g mk ⟨q.1, q.2.2⟩).2⟩
def gt_htr (l : Launch) : Prop := ∀ e : Env, l.admits e → e.platform.stackTraces = false
set_option maxHeartbeats 4000000 in
set_option maxRecDepth 100000 in
theorem c_G_checkRoot_out (l : Launch) (htr : gt_htr l) (D : va_G) (r : Int32) (hr : ro_b r = false) : xt_M l y_G_checkRoot (Cond.code y_G_checkRoot b_G_checkRoot 1 none :: wa_all) (rm_x 0) (va_Pc [.int r] xs_T) (gx_T D cl_all (fun _ => False) [] X_IOOBE (fun w' => w' = [])) 1 6 (fun _ => False) := by
  refine gx_thr (by decide) (Nat.le_of_ble_eq_true rfl) ?_
  intro p e s m args below meth c ls hx hb hml ht hown hno hlk hT hl
  have hl : lv_has ls 1 [(0, .int r)] := hl
  have hown : s.vm.findClass R_G = some m.cls := hown
  have hP : va_P D cl_all [] s.heap := fun k q h => by cases h
  have go : W p l e (rm_x 0) s m args below meth c s.heap [] 0 0 (xt_Q below (gx_T D cl_all (fun _ => False) [] X_IOOBE (fun w' => w' = [])) args s 1 6 (fun _ => False)) (F0 m 10 ls []) := by
    refine xs_go (cls := X_IOOBE) (tx := "there is no such root") hx hb htr hown hno hlk (by decide) (by intro n hn; simp only [List.mem_cons, List.not_mem_nil, or_false] at hn; rcases hn with rfl | rfl <;> decide) (xs_IOOBE ht hT) (ht _ wm_305) (ht _ wm_42) (hT.2 (110, "there is no such root") (List.mem_of_getElem? (i := 2) rfl)) d_G_checkRoot_10 d_G_checkRoot_13 d_G_checkRoot_14 d_G_checkRoot_16 d_G_checkRoot_19 (hl.1.trans hml.symm) (fun x hx => by cases hx) (Nat.le_refl _) ⟨by decide, by decide⟩ ⟨by decide, by decide⟩ (fun q hq => by cases hq) (xs_end hP rfl (rfl) va_S.rf (va_lt hP))
  refine lv_iload_n hx hb d_G_checkRoot_0 rfl (lv_at hl 0 rfl) ?_
  refine lv_if_lt (tgt := 10) hx hb d_G_checkRoot_1 (by decide) (fun _ => go) (fun h1 => ?_)
  refine lv_iload_n hx hb d_G_checkRoot_4 rfl (lv_at hl 0 rfl) ?_
  refine lv_bipush (v := nI 8) hx hb d_G_checkRoot_5 (by decide +kernel) ?_
  refine lv_icmp_lt (tgt := 20) hx hb d_G_checkRoot_7 (by decide) (fun h7 => ?_) (fun _ => go)
  rw [ro_t2 h1 h7] at hr
  cases hr

set_option maxHeartbeats 4000000 in
set_option maxRecDepth 100000 in
theorem c_G_checkInObject_out (l : Launch) (htr : gt_htr l) (D : va_G) (ca : Nat → ClassId) (hs : Nat → Nat) (rt : Nat → Int32) (wd : Nat → Int32) (ob : Nat → Nat) (ln : Nat → Nat) (kd : Nat → Nat) (qt : Nat → Bool) (df : Nat → Bool) (mk : Nat → Bool) (fd : Nat → Nat) (fc : Nat) (oc : Nat) (cn : Nat) (w : Int32) (hw : ad_b w = false) : xt_M l y_G_checkInObject (Cond.code y_G_checkInObject b_G_checkInObject 2 none :: wa_all) (rm_x 0) (va_Pc [.ref (hs 0), .int (w)] (gt_I D ca (gw_G ca hs rt wd ob ln kd qt df mk fd fc oc cn))) (gx_T D cl_all (gx_A hs 10) (gw_G ca hs rt wd ob ln kd qt df mk fd fc oc cn) X_IOOBE (fun w' => w' = gw_G ca hs rt wd ob ln kd qt df mk fd fc oc cn)) 1 6 (gx_A hs 10) := by
  refine gx_thr (by decide) (Nat.le_of_ble_eq_true rfl) ?_
  intro p e s m args below meth c ls hx hb hml ht hown hno hlk hI hl
  obtain ⟨⟨hP, hK, hD⟩, hT⟩ := hI
  have hl : lv_has ls 2 [(0, .ref (hs 0)), (1, .int (w))] := hl
  have hown : s.vm.findClass R_G = some m.cls := hown
  refine lv_iload_n hx hb d_G_checkInObject_0 rfl (lv_at hl 1 rfl) ?_
  refine gx_cS (n := 1) (own := R_G) (As := [.int (w)]) (rest := []) ⟨hx, hb, hml, hown, ht⟩ hg_all (c_G_isAddress l (w)) wm_110 wm_111 wm_34 wm_112 ⟨rfl, by decide, by decide, by decide +kernel⟩ rfl ⟨rfl, rfl⟩ ⟨by decide, by decide⟩ ⟨by decide, by decide⟩ hl.1 rfl (Nat.le_of_ble_eq_true rfl) d_G_checkInObject_1 ?_
  refine nx_if_ne_b (tgt := 17) hx hb d_G_checkInObject_4 (by decide) (fun h4 => ?_) (fun h4 => ?_)
  · rw [hw] at h4
    cases h4
  · refine xs_go (cls := X_IOOBE) (tx := "this is no address of the heap") hx hb htr hown hno hlk (by decide) (by intro n hn; simp only [List.mem_cons, List.not_mem_nil, or_false] at hn; rcases hn with rfl | rfl <;> decide) (xs_IOOBE ht hT) (ht _ wm_305) (ht _ wm_42) (hT.2 (116, "this is no address of the heap") (List.mem_of_getElem? (i := 3) rfl)) d_G_checkInObject_7 d_G_checkInObject_10 d_G_checkInObject_11 d_G_checkInObject_13 d_G_checkInObject_16 (hl.1.trans hml.symm) (fun x hx => by cases hx) (Nat.le_refl _) ⟨by decide, by decide⟩ ⟨by decide, by decide⟩ (fun q hq => by cases hq) (xs_end hP rfl (rfl) va_S.rf (va_lt hP))

set_option maxHeartbeats 4000000 in
set_option maxRecDepth 100000 in
theorem c_G_checkInObject_no (l : Launch) (htr : gt_htr l) (D : va_G) (ca : Nat → ClassId) (hs : Nat → Nat) (rt : Nat → Int32) (wd : Nat → Int32) (ob : Nat → Nat) (ln : Nat → Nat) (kd : Nat → Nat) (qt : Nat → Bool) (df : Nat → Bool) (mk : Nat → Bool) (fd : Nat → Nat) (fc : Nat) (oc : Nat) (cn : Nat) (i : Nat) (hi : i < 512) (hne : ob i = 0) : xt_M l y_G_checkInObject (Cond.code y_G_checkInObject b_G_checkInObject 2 none :: wa_all) (rm_x 0) (va_Pc [.ref (hs 0), .int (nI (4096 + i))] (gt_I D ca (gw_G ca hs rt wd ob ln kd qt df mk fd fc oc cn))) (gx_T D cl_all (gx_A hs 10) (gw_G ca hs rt wd ob ln kd qt df mk fd fc oc cn) X_ISE (fun w' => w' = gw_G ca hs rt wd ob ln kd qt df mk fd fc oc cn)) 1 6 (gx_A hs 10) := by
  refine gx_thr (by decide) (Nat.le_of_ble_eq_true rfl) ?_
  intro p e s m args below meth c ls hx hb hml ht hown hno hlk hI hl
  obtain ⟨⟨hP, hK, hD⟩, hT⟩ := hI
  have hl : lv_has ls 2 [(0, .ref (hs 0)), (1, .int (nI (4096 + i)))] := hl
  have hown : s.vm.findClass R_G = some m.cls := hown
  refine lv_iload_n hx hb d_G_checkInObject_0 rfl (lv_at hl 1 rfl) ?_
  refine gx_cS (n := 1) (own := R_G) (As := [.int (nI (4096 + i))]) (rest := []) ⟨hx, hb, hml, hown, ht⟩ hg_all (c_G_isAddress l (nI (4096 + i))) wm_110 wm_111 wm_34 wm_112 ⟨rfl, by decide, by decide, by decide +kernel⟩ rfl ⟨rfl, rfl⟩ ⟨by decide, by decide⟩ ⟨by decide, by decide⟩ hl.1 rfl (Nat.le_of_ble_eq_true rfl) d_G_checkInObject_1 ?_
  refine nx_if_ne_b (tgt := 17) hx hb d_G_checkInObject_4 (by decide) (fun h4 => ?_) (fun h4 => ?_)
  · refine lv_aload_n hx hb d_G_checkInObject_17 rfl (lv_at hl 0 rfl) ?_
    refine lv_iload_n hx hb d_G_checkInObject_18 rfl (lv_at hl 1 rfl) ?_
    refine gx_cV (n := 1) (q0 := 0) (ci := 0) (q := (R_G, F_G, 12)) (C := R_G) (own := R_G) (As := [.int (nI (4096 + i))]) (rest := []) ⟨hx, hb, hml, hown, ht⟩ hg_all (c_G_startAt_in l D ca hs (rt) (wd) (ob) (ln) (kd) (qt) (df) (mk) (fd) (fc) (oc) (cn) i hi) wm_113 wm_114 wm_4 wm_34 wm_115 ⟨rfl, by decide, by decide, by decide +kernel⟩ rfl ⟨rfl, rfl⟩ ⟨by decide, by decide⟩ ⟨by decide, by decide⟩ hK hP hD rfl rfl rfl hl.1 rfl (Nat.le_of_ble_eq_true rfl) d_G_checkInObject_19 ?_
    refine nx_top (show zs_e (ob i) = -1 by rw [hne]; exact zs_0) ?_
    refine lv_iconst (v := -1) hx hb d_G_checkInObject_22 (by decide +kernel) ?_
    refine lv_icmp_ne (tgt := 36) hx hb d_G_checkInObject_23 (by decide) (fun h => absurd rfl h) (fun _ => ?_)
    refine xs_go (cls := X_ISE) (tx := "this word is in no object") hx hb htr hown hno hlk (by decide) (by intro n hn; simp only [List.mem_cons, List.not_mem_nil, or_false] at hn; rcases hn with rfl | rfl <;> decide) (xs_ISE ht hT) (ht _ wm_268) (ht _ wm_43) (hT.2 (118, "this word is in no object") (List.mem_of_getElem? (i := 4) rfl)) d_G_checkInObject_26 d_G_checkInObject_29 d_G_checkInObject_30 d_G_checkInObject_32 d_G_checkInObject_35 (hl.1.trans hml.symm) (fun x hx => by cases hx) (Nat.le_refl _) ⟨by decide, by decide⟩ ⟨by decide, by decide⟩ (fun q hq => by cases hq) (xs_end hP rfl (rfl) va_S.rf (va_lt hP))
  · rw [(ad_i hi).1] at h4
    cases h4

set_option maxHeartbeats 4000000 in
set_option maxRecDepth 100000 in
theorem c_G_rooted_out (l : Launch) (htr : gt_htr l) (D : va_G) (ca : Nat → ClassId) (hs : Nat → Nat) (rt : Nat → Int32) (wd : Nat → Int32) (ob : Nat → Nat) (ln : Nat → Nat) (kd : Nat → Nat) (qt : Nat → Bool) (df : Nat → Bool) (mk : Nat → Bool) (fd : Nat → Nat) (fc : Nat) (oc : Nat) (cn : Nat) (r : Int32) (hr : ro_b r = false) : xt_M l y_G_rooted (Cond.code y_G_rooted b_G_rooted 2 (some .int) :: wa_all) (rm_x 1) (va_Pc [.ref (hs 0), .int (r)] (gt_I D ca (gw_G ca hs rt wd ob ln kd qt df mk fd fc oc cn))) (gx_T D cl_all (gx_A hs 10) (gw_G ca hs rt wd ob ln kd qt df mk fd fc oc cn) X_IOOBE (fun w' => w' = gw_G ca hs rt wd ob ln kd qt df mk fd fc oc cn)) 1 6 (gx_A hs 10) := by
  refine gx_thr (by decide) (Nat.le_of_ble_eq_true rfl) ?_
  intro p e s m args below meth c ls hx hb hml ht hown hno hlk hI hl
  obtain ⟨⟨hP, hK, hD⟩, hT⟩ := hI
  have hl : lv_has ls 2 [(0, .ref (hs 0)), (1, .int (r))] := hl
  have hown : s.vm.findClass R_G = some m.cls := hown
  refine lv_iload_n hx hb d_G_rooted_0 rfl (lv_at hl 1 rfl) ?_
  refine xt_on (xt_runS (y := y_G_checkRoot) (ws := Cond.code y_G_checkRoot b_G_checkRoot 1 none :: wa_all) (own := R_G) (n := 1) (As := [.int r]) (rest := []) ⟨hx, hb, hml, hown, ht⟩ (c_G_checkRoot_out l htr D r hr) (cwS 1 ht (wg_cons hg_all wm_302 (wg_cons hg_all wm_303 (wg_cons hg_all wm_34 (wg_cons hg_all wm_304 hg_all)))) rfl rfl rfl ⟨rfl, by decide, by decide, by decide +kernel⟩ ⟨by decide, by decide⟩) ⟨xs_blind, fun U hU hW => ⟨rfl, xs_moved hW (by rw [hU]; exact xs_H.refl _) hT⟩⟩ rfl rfl hl.1 rfl (lv_room (Nat.le_of_ble_eq_true rfl)) d_G_rooted_1 ⟨by decide, by decide⟩) hno (fun x st₀ t t' h0 hq e1 hW hA => ?_) (fun q hq => by cases hq) (fun q hq => hq.elim) hlk
  obtain ⟨x', cell, w', g1, g2, g3, g4, g5, g6, g7, g8⟩ := hq
  cases g1
  unfold va_F at g8
  rw [h0] at g8
  refine ⟨x, cell, (gw_G ca hs rt wd ob ln kd qt df mk fd fc oc cn), rfl, by rw [e1]; exact g2, g3, by rw [hW.alike.findClass, ← hA.findClass]; exact g4, rfl, rfl, by rw [e1]; exact hP.kept (fun k q hk => g8.2 _ (va_lt hP k q hk) (fun h => h)), by rw [e1]; exact g8.1, fun q q1 _ => by rw [e1]; exact g8.2 q q1 (fun h => h)⟩

set_option maxHeartbeats 4000000 in
set_option maxRecDepth 100000 in
theorem c_G_root_out (l : Launch) (htr : gt_htr l) (D : va_G) (ca : Nat → ClassId) (hs : Nat → Nat) (rt : Nat → Int32) (wd : Nat → Int32) (ob : Nat → Nat) (ln : Nat → Nat) (kd : Nat → Nat) (qt : Nat → Bool) (df : Nat → Bool) (mk : Nat → Bool) (fd : Nat → Nat) (fc : Nat) (oc : Nat) (cn : Nat) (r : Int32) (hr : ro_b r = false) (w : Int32) : xt_M l y_G_root (Cond.code y_G_root b_G_root 3 none :: wa_all) (rm_x 1) (va_Pc [.ref (hs 0), .int (r), .int (w)] (gt_I D ca (gw_G ca hs rt wd ob ln kd qt df mk fd fc oc cn))) (gx_T D cl_all (gx_A hs 10) (gw_G ca hs rt wd ob ln kd qt df mk fd fc oc cn) X_IOOBE (fun w' => w' = gw_G ca hs rt wd ob ln kd qt df mk fd fc oc cn)) 1 6 (gx_A hs 10) := by
  refine gx_thr (by decide) (Nat.le_of_ble_eq_true rfl) ?_
  intro p e s m args below meth c ls hx hb hml ht hown hno hlk hI hl
  obtain ⟨⟨hP, hK, hD⟩, hT⟩ := hI
  have hl : lv_has ls 3 [(0, .ref (hs 0)), (1, .int (r)), (2, .int (w))] := hl
  have hown : s.vm.findClass R_G = some m.cls := hown
  refine lv_iload_n hx hb d_G_root_0 rfl (lv_at hl 1 rfl) ?_
  refine xt_on (xt_runS (y := y_G_checkRoot) (ws := Cond.code y_G_checkRoot b_G_checkRoot 1 none :: wa_all) (own := R_G) (n := 1) (As := [.int r]) (rest := []) ⟨hx, hb, hml, hown, ht⟩ (c_G_checkRoot_out l htr D r hr) (cwS 1 ht (wg_cons hg_all wm_302 (wg_cons hg_all wm_303 (wg_cons hg_all wm_34 (wg_cons hg_all wm_304 hg_all)))) rfl rfl rfl ⟨rfl, by decide, by decide, by decide +kernel⟩ ⟨by decide, by decide⟩) ⟨xs_blind, fun U hU hW => ⟨rfl, xs_moved hW (by rw [hU]; exact xs_H.refl _) hT⟩⟩ rfl rfl hl.1 rfl (lv_room (Nat.le_of_ble_eq_true rfl)) d_G_root_1 ⟨by decide, by decide⟩) hno (fun x st₀ t t' h0 hq e1 hW hA => ?_) (fun q hq => by cases hq) (fun q hq => hq.elim) hlk
  obtain ⟨x', cell, w', g1, g2, g3, g4, g5, g6, g7, g8⟩ := hq
  cases g1
  unfold va_F at g8
  rw [h0] at g8
  refine ⟨x, cell, (gw_G ca hs rt wd ob ln kd qt df mk fd fc oc cn), rfl, by rw [e1]; exact g2, g3, by rw [hW.alike.findClass, ← hA.findClass]; exact g4, rfl, rfl, by rw [e1]; exact hP.kept (fun k q hk => g8.2 _ (va_lt hP k q hk) (fun h => h)), by rw [e1]; exact g8.1, fun q q1 _ => by rw [e1]; exact g8.2 q q1 (fun h => h)⟩

set_option maxHeartbeats 4000000 in
set_option maxRecDepth 100000 in
theorem c_G_read_out (l : Launch) (htr : gt_htr l) (D : va_G) (ca : Nat → ClassId) (hs : Nat → Nat) (rt : Nat → Int32) (wd : Nat → Int32) (ob : Nat → Nat) (ln : Nat → Nat) (kd : Nat → Nat) (qt : Nat → Bool) (df : Nat → Bool) (mk : Nat → Bool) (fd : Nat → Nat) (fc : Nat) (oc : Nat) (cn : Nat) (w : Int32) (hw : ad_b w = false) : xt_M l y_G_read (Cond.code y_G_read b_G_read 2 (some .int) :: wa_all) (rm_x 1) (va_Pc [.ref (hs 0), .int (w)] (gt_I D ca (gw_G ca hs rt wd ob ln kd qt df mk fd fc oc cn))) (gx_T D cl_all (gx_A hs 10) (gw_G ca hs rt wd ob ln kd qt df mk fd fc oc cn) X_IOOBE (fun w' => w' = gw_G ca hs rt wd ob ln kd qt df mk fd fc oc cn)) 1 6 (gx_A hs 10) := by
  refine gx_thr (by decide) (Nat.le_of_ble_eq_true rfl) ?_
  intro p e s m args below meth c ls hx hb hml ht hown hno hlk hI hl
  obtain ⟨⟨hP, hK, hD⟩, hT⟩ := hI
  have hl : lv_has ls 2 [(0, .ref (hs 0)), (1, .int (w))] := hl
  have hown : s.vm.findClass R_G = some m.cls := hown
  refine lv_aload_n hx hb d_G_read_0 rfl (lv_at hl 0 rfl) ?_
  refine lv_iload_n hx hb d_G_read_1 rfl (lv_at hl 1 rfl) ?_
  refine xt_on (xt_runV (y := y_G_checkInObject) (ws := Cond.code y_G_checkInObject b_G_checkInObject 2 none :: wa_all) (own := R_G) (C := R_G) (b := hs 0) (n := 1) (As := [.int (w)]) (rest := []) ⟨hx, hb, hml, hown, ht⟩ (c_G_checkInObject_out l htr D ca hs rt wd ob ln kd qt df mk fd fc oc cn w hw) (cwV 1 ht (wg_cons hg_all wm_330 (wg_cons hg_all wm_331 (wg_cons hg_all wm_20 (wg_cons hg_all wm_34 (wg_cons hg_all wm_332 hg_all))))) rfl rfl rfl ⟨rfl, by decide, by decide, by decide +kernel⟩ ⟨by decide, by decide⟩) ⟨gt_blind, va_recv (q := (R_G, F_G, 12)) hK hP (ci := 0) rfl (q0 := 0) rfl, fun U hU hW => ⟨rfl, ⟨by rw [hU]; exact hP, va_K.moved hW.alike hK, hD⟩, xs_moved hW (by rw [hU]; exact xs_H.refl _) hT⟩⟩ rfl rfl hl.1 rfl (lv_room (Nat.le_of_ble_eq_true rfl)) d_G_read_2 ⟨by decide, by decide⟩) hno (fun x st₀ t t' h0 hq e1 hW hA => ?_) (fun q hq => by cases hq) (fun q hq => hq) hlk
  obtain ⟨x', cell, w', g1, g2, g3, g4, g5, g6, g7, g8⟩ := hq
  cases g1
  subst g5
  refine ⟨x, cell, (gw_G ca hs rt wd ob ln kd qt df mk fd fc oc cn), rfl, by rw [e1]; exact g2, g3, by rw [hW.alike.findClass, ← hA.findClass]; exact g4, rfl, rfl, by rw [e1]; exact g7, ?_⟩
  have g9 : va_F (gx_A hs 10) st₀ t := g8
  unfold va_F at g9 ⊢
  rw [h0] at g9
  rw [e1]
  exact g9

set_option maxHeartbeats 4000000 in
set_option maxRecDepth 100000 in
theorem c_G_read_no (l : Launch) (htr : gt_htr l) (D : va_G) (ca : Nat → ClassId) (hs : Nat → Nat) (rt : Nat → Int32) (wd : Nat → Int32) (ob : Nat → Nat) (ln : Nat → Nat) (kd : Nat → Nat) (qt : Nat → Bool) (df : Nat → Bool) (mk : Nat → Bool) (fd : Nat → Nat) (fc : Nat) (oc : Nat) (cn : Nat) (i : Nat) (hi : i < 512) (hne : ob i = 0) : xt_M l y_G_read (Cond.code y_G_read b_G_read 2 (some .int) :: wa_all) (rm_x 1) (va_Pc [.ref (hs 0), .int (nI (4096 + i))] (gt_I D ca (gw_G ca hs rt wd ob ln kd qt df mk fd fc oc cn))) (gx_T D cl_all (gx_A hs 10) (gw_G ca hs rt wd ob ln kd qt df mk fd fc oc cn) X_ISE (fun w' => w' = gw_G ca hs rt wd ob ln kd qt df mk fd fc oc cn)) 1 6 (gx_A hs 10) := by
  refine gx_thr (by decide) (Nat.le_of_ble_eq_true rfl) ?_
  intro p e s m args below meth c ls hx hb hml ht hown hno hlk hI hl
  obtain ⟨⟨hP, hK, hD⟩, hT⟩ := hI
  have hl : lv_has ls 2 [(0, .ref (hs 0)), (1, .int (nI (4096 + i)))] := hl
  have hown : s.vm.findClass R_G = some m.cls := hown
  refine lv_aload_n hx hb d_G_read_0 rfl (lv_at hl 0 rfl) ?_
  refine lv_iload_n hx hb d_G_read_1 rfl (lv_at hl 1 rfl) ?_
  refine xt_on (xt_runV (y := y_G_checkInObject) (ws := Cond.code y_G_checkInObject b_G_checkInObject 2 none :: wa_all) (own := R_G) (C := R_G) (b := hs 0) (n := 1) (As := [.int (nI (4096 + i))]) (rest := []) ⟨hx, hb, hml, hown, ht⟩ (c_G_checkInObject_no l htr D ca hs rt wd ob ln kd qt df mk fd fc oc cn i hi hne) (cwV 1 ht (wg_cons hg_all wm_330 (wg_cons hg_all wm_331 (wg_cons hg_all wm_20 (wg_cons hg_all wm_34 (wg_cons hg_all wm_332 hg_all))))) rfl rfl rfl ⟨rfl, by decide, by decide, by decide +kernel⟩ ⟨by decide, by decide⟩) ⟨gt_blind, va_recv (q := (R_G, F_G, 12)) hK hP (ci := 0) rfl (q0 := 0) rfl, fun U hU hW => ⟨rfl, ⟨by rw [hU]; exact hP, va_K.moved hW.alike hK, hD⟩, xs_moved hW (by rw [hU]; exact xs_H.refl _) hT⟩⟩ rfl rfl hl.1 rfl (lv_room (Nat.le_of_ble_eq_true rfl)) d_G_read_2 ⟨by decide, by decide⟩) hno (fun x st₀ t t' h0 hq e1 hW hA => ?_) (fun q hq => by cases hq) (fun q hq => hq) hlk
  obtain ⟨x', cell, w', g1, g2, g3, g4, g5, g6, g7, g8⟩ := hq
  cases g1
  subst g5
  refine ⟨x, cell, (gw_G ca hs rt wd ob ln kd qt df mk fd fc oc cn), rfl, by rw [e1]; exact g2, g3, by rw [hW.alike.findClass, ← hA.findClass]; exact g4, rfl, rfl, by rw [e1]; exact g7, ?_⟩
  have g9 : va_F (gx_A hs 10) st₀ t := g8
  unfold va_F at g9 ⊢
  rw [h0] at g9
  rw [e1]
  exact g9

set_option maxHeartbeats 4000000 in
set_option maxRecDepth 100000 in
theorem c_G_write_out (l : Launch) (htr : gt_htr l) (D : va_G) (ca : Nat → ClassId) (hs : Nat → Nat) (rt : Nat → Int32) (wd : Nat → Int32) (ob : Nat → Nat) (ln : Nat → Nat) (kd : Nat → Nat) (qt : Nat → Bool) (df : Nat → Bool) (mk : Nat → Bool) (fd : Nat → Nat) (fc : Nat) (oc : Nat) (cn : Nat) (w : Int32) (hw : ad_b w = false) (x : Int32) : xt_M l y_G_write (Cond.code y_G_write b_G_write 4 (some .int) :: wa_all) (rm_x 1) (va_Pc [.ref (hs 0), .int (w), .int (x)] (gt_I D ca (gw_G ca hs rt wd ob ln kd qt df mk fd fc oc cn))) (gx_T D cl_all (gx_A hs 10) (gw_G ca hs rt wd ob ln kd qt df mk fd fc oc cn) X_IOOBE (fun w' => w' = gw_G ca hs rt wd ob ln kd qt df mk fd fc oc cn)) 1 6 (gx_A hs 10) := by
  refine gx_thr (by decide) (Nat.le_of_ble_eq_true rfl) ?_
  intro p e s m args below meth c ls hx hb hml ht hown hno hlk hI hl
  obtain ⟨⟨hP, hK, hD⟩, hT⟩ := hI
  have hl : lv_has ls 4 [(0, .ref (hs 0)), (1, .int (w)), (2, .int (x))] := hl
  have hown : s.vm.findClass R_G = some m.cls := hown
  refine lv_aload_n hx hb d_G_write_0 rfl (lv_at hl 0 rfl) ?_
  refine lv_iload_n hx hb d_G_write_1 rfl (lv_at hl 1 rfl) ?_
  refine xt_on (xt_runV (y := y_G_checkInObject) (ws := Cond.code y_G_checkInObject b_G_checkInObject 2 none :: wa_all) (own := R_G) (C := R_G) (b := hs 0) (n := 1) (As := [.int (w)]) (rest := []) ⟨hx, hb, hml, hown, ht⟩ (c_G_checkInObject_out l htr D ca hs rt wd ob ln kd qt df mk fd fc oc cn w hw) (cwV 1 ht (wg_cons hg_all wm_330 (wg_cons hg_all wm_331 (wg_cons hg_all wm_20 (wg_cons hg_all wm_34 (wg_cons hg_all wm_332 hg_all))))) rfl rfl rfl ⟨rfl, by decide, by decide, by decide +kernel⟩ ⟨by decide, by decide⟩) ⟨gt_blind, va_recv (q := (R_G, F_G, 12)) hK hP (ci := 0) rfl (q0 := 0) rfl, fun U hU hW => ⟨rfl, ⟨by rw [hU]; exact hP, va_K.moved hW.alike hK, hD⟩, xs_moved hW (by rw [hU]; exact xs_H.refl _) hT⟩⟩ rfl rfl hl.1 rfl (lv_room (Nat.le_of_ble_eq_true rfl)) d_G_write_2 ⟨by decide, by decide⟩) hno (fun x st₀ t t' h0 hq e1 hW hA => ?_) (fun q hq => by cases hq) (fun q hq => hq) hlk
  obtain ⟨x', cell, w', g1, g2, g3, g4, g5, g6, g7, g8⟩ := hq
  cases g1
  subst g5
  refine ⟨x, cell, (gw_G ca hs rt wd ob ln kd qt df mk fd fc oc cn), rfl, by rw [e1]; exact g2, g3, by rw [hW.alike.findClass, ← hA.findClass]; exact g4, rfl, rfl, by rw [e1]; exact g7, ?_⟩
  have g9 : va_F (gx_A hs 10) st₀ t := g8
  unfold va_F at g9 ⊢
  rw [h0] at g9
  rw [e1]
  exact g9

set_option maxHeartbeats 4000000 in
set_option maxRecDepth 100000 in
theorem c_G_write_no (l : Launch) (htr : gt_htr l) (D : va_G) (ca : Nat → ClassId) (hs : Nat → Nat) (rt : Nat → Int32) (wd : Nat → Int32) (ob : Nat → Nat) (ln : Nat → Nat) (kd : Nat → Nat) (qt : Nat → Bool) (df : Nat → Bool) (mk : Nat → Bool) (fd : Nat → Nat) (fc : Nat) (oc : Nat) (cn : Nat) (i : Nat) (hi : i < 512) (hne : ob i = 0) (x : Int32) : xt_M l y_G_write (Cond.code y_G_write b_G_write 4 (some .int) :: wa_all) (rm_x 1) (va_Pc [.ref (hs 0), .int (nI (4096 + i)), .int (x)] (gt_I D ca (gw_G ca hs rt wd ob ln kd qt df mk fd fc oc cn))) (gx_T D cl_all (gx_A hs 10) (gw_G ca hs rt wd ob ln kd qt df mk fd fc oc cn) X_ISE (fun w' => w' = gw_G ca hs rt wd ob ln kd qt df mk fd fc oc cn)) 1 6 (gx_A hs 10) := by
  refine gx_thr (by decide) (Nat.le_of_ble_eq_true rfl) ?_
  intro p e s m args below meth c ls hx hb hml ht hown hno hlk hI hl
  obtain ⟨⟨hP, hK, hD⟩, hT⟩ := hI
  have hl : lv_has ls 4 [(0, .ref (hs 0)), (1, .int (nI (4096 + i))), (2, .int (x))] := hl
  have hown : s.vm.findClass R_G = some m.cls := hown
  refine lv_aload_n hx hb d_G_write_0 rfl (lv_at hl 0 rfl) ?_
  refine lv_iload_n hx hb d_G_write_1 rfl (lv_at hl 1 rfl) ?_
  refine xt_on (xt_runV (y := y_G_checkInObject) (ws := Cond.code y_G_checkInObject b_G_checkInObject 2 none :: wa_all) (own := R_G) (C := R_G) (b := hs 0) (n := 1) (As := [.int (nI (4096 + i))]) (rest := []) ⟨hx, hb, hml, hown, ht⟩ (c_G_checkInObject_no l htr D ca hs rt wd ob ln kd qt df mk fd fc oc cn i hi hne) (cwV 1 ht (wg_cons hg_all wm_330 (wg_cons hg_all wm_331 (wg_cons hg_all wm_20 (wg_cons hg_all wm_34 (wg_cons hg_all wm_332 hg_all))))) rfl rfl rfl ⟨rfl, by decide, by decide, by decide +kernel⟩ ⟨by decide, by decide⟩) ⟨gt_blind, va_recv (q := (R_G, F_G, 12)) hK hP (ci := 0) rfl (q0 := 0) rfl, fun U hU hW => ⟨rfl, ⟨by rw [hU]; exact hP, va_K.moved hW.alike hK, hD⟩, xs_moved hW (by rw [hU]; exact xs_H.refl _) hT⟩⟩ rfl rfl hl.1 rfl (lv_room (Nat.le_of_ble_eq_true rfl)) d_G_write_2 ⟨by decide, by decide⟩) hno (fun x st₀ t t' h0 hq e1 hW hA => ?_) (fun q hq => by cases hq) (fun q hq => hq) hlk
  obtain ⟨x', cell, w', g1, g2, g3, g4, g5, g6, g7, g8⟩ := hq
  cases g1
  subst g5
  refine ⟨x, cell, (gw_G ca hs rt wd ob ln kd qt df mk fd fc oc cn), rfl, by rw [e1]; exact g2, g3, by rw [hW.alike.findClass, ← hA.findClass]; exact g4, rfl, rfl, by rw [e1]; exact g7, ?_⟩
  have g9 : va_F (gx_A hs 10) st₀ t := g8
  unfold va_F at g9 ⊢
  rw [h0] at g9
  rw [e1]
  exact g9

set_option maxHeartbeats 4000000 in
set_option maxRecDepth 100000 in
theorem c_G_allocate_out (l : Launch) (htr : gt_htr l) (D : va_G) (ca : Nat → ClassId) (hs : Nat → Nat) (rt : Nat → Int32) (wd : Nat → Int32) (ob : Nat → Nat) (ln : Nat → Nat) (kd : Nat → Nat) (qt : Nat → Bool) (df : Nat → Bool) (mk : Nat → Bool) (fd : Nat → Nat) (fc : Nat) (oc : Nat) (cn : Nat) (w : Int32) (hw : rg_b w = false) (sl : Bool) : xt_M l y_G_allocate (Cond.code y_G_allocate b_G_allocate 4 (some .int) :: wa_all) (rm_x 0) (va_Pc [.ref (hs 0), .int (w), .int (zb_e sl)] (gt_I D ca (gw_G ca hs rt wd ob ln kd qt df mk fd fc oc cn))) (gx_T D cl_all (gx_A hs 10) (gw_G ca hs rt wd ob ln kd qt df mk fd fc oc cn) X_IAE (fun w' => w' = gw_G ca hs rt wd ob ln kd qt df mk fd fc oc cn)) 1 6 (gx_A hs 10) := by
  refine gx_thr (by decide) (Nat.le_of_ble_eq_true rfl) ?_
  intro p e s m args below meth c ls hx hb hml ht hown hno hlk hI hl
  obtain ⟨⟨hP, hK, hD⟩, hT⟩ := hI
  have hl : lv_has ls 4 [(0, .ref (hs 0)), (1, .int (w)), (2, .int (zb_e sl))] := hl
  have hown : s.vm.findClass R_G = some m.cls := hown
  have go : W p l e (rm_x 0) s m args below meth c s.heap [] 0 0 (xt_Q below (gx_T D cl_all (gx_A hs 10) (gw_G ca hs rt wd ob ln kd qt df mk fd fc oc cn) X_IAE (fun w' => w' = gw_G ca hs rt wd ob ln kd qt df mk fd fc oc cn)) args s 1 6 (gx_A hs 10)) (F0 m 12 ls []) := by
    refine xs_go (cls := X_IAE) (tx := "n is not 1 .. 128") hx hb htr hown hno hlk (by decide) (by intro n hn; simp only [List.mem_cons, List.not_mem_nil, or_false] at hn; rcases hn with rfl | rfl <;> decide) (xs_IAE ht hT) (ht _ wm_251) (ht _ wm_40) (hT.2 (56, "n is not 1 .. 128") (List.mem_of_getElem? (i := 0) rfl)) d_G_allocate_12 d_G_allocate_15 d_G_allocate_16 d_G_allocate_18 d_G_allocate_21 (hl.1.trans hml.symm) (fun x hx => by cases hx) (Nat.le_refl _) ⟨by decide, by decide⟩ ⟨by decide, by decide⟩ (fun q hq => by cases hq) (xs_end hP rfl (rfl) va_S.rf (va_lt hP))
  refine lv_iload_n hx hb d_G_allocate_0 rfl (lv_at hl 1 rfl) ?_
  refine lv_iconst (v := nI 1) hx hb d_G_allocate_1 (by decide +kernel) ?_
  refine lv_icmp_lt (tgt := 12) hx hb d_G_allocate_2 (by decide) (fun _ => go) (fun h2 => ?_)
  refine lv_iload_n hx hb d_G_allocate_5 rfl (lv_at hl 1 rfl) ?_
  refine lv_sipush (v := nI 128) hx hb d_G_allocate_6 (by decide +kernel) ?_
  refine lv_icmp_le (tgt := 22) hx hb d_G_allocate_9 (by decide) (fun h9 => ?_) (fun _ => go)
  rw [rg_t h2 h9] at hw
  cases hw

set_option maxHeartbeats 4000000 in
set_option maxRecDepth 100000 in
theorem c_G_allocate_4 (l : Launch) (htr : gt_htr l) (D : va_G) (ca : Nat → ClassId) (hs : Nat → Nat) (rt : Nat → Int32) (wd : Nat → Int32) (ob : Nat → Nat) (ln : Nat → Nat) (kd : Nat → Nat) (qt : Nat → Bool) (df : Nat → Bool) (mk : Nat → Bool) (fd : Nat → Nat) (fc : Nat) (oc : Nat) (cn : Nat) (hv : iv_a ob ln kd wd oc) (n : Nat) (sl : Bool) (hn1 : 1 ≤ n) (hn2 : n ≤ 128) (hr0 : ¬ rm_n ob kd df n false < 512) (hr1 : ¬ rm_n (co_ob ob (co_mk rt wd ob ln qt)) (co_kd kd (co_ob ob (co_mk rt wd ob ln qt))) (co_df rt wd ob ln kd qt) n false < 512) (hr2 : ¬ rm_n (co_ob ob (co_mk rt wd ob ln qt)) (co_kd kd (co_ob ob (co_mk rt wd ob ln qt))) (co_df rt wd ob ln kd qt) n true < 512) : xt_M l y_G_allocate (Cond.code y_G_allocate b_G_allocate 4 (some .int) :: wa_all) (rm_x 6) (va_Pc [.ref (hs 0), .int (nI n), .int (zb_e sl)] (gt_I D ca (gw_G ca hs rt wd ob ln kd qt df mk fd fc oc cn))) (gx_T D cl_all (gx_A hs 10) (gw_G ca hs rt wd ob ln kd qt df mk fd fc oc cn) X_ISE (fun w' => ∃ (fd2 : Nat → Nat) (fc2 : Nat), w' = gw_G ca hs rt (co_wd wd ob (co_mk rt wd ob ln qt)) (co_ob ob (co_mk rt wd ob ln qt)) ln (co_kd kd (co_ob ob (co_mk rt wd ob ln qt))) qt (co_df rt wd ob ln kd qt) (co_mk rt wd ob ln qt) fd2 fc2 (iv_c (co_ob ob (co_mk rt wd ob ln qt))) (cn + 1))) 1 6 (gx_A hs 10) := by
  refine gx_thr (by decide) (Nat.le_of_ble_eq_true rfl) ?_
  intro p e s m args below meth c ls hx hb hml ht hown hno hlk hI hl
  obtain ⟨⟨hP, hK, hD⟩, hT⟩ := hI
  have hl : lv_has ls 4 [(0, .ref (hs 0)), (1, .int (nI n)), (2, .int (zb_e sl))] := hl
  have hown : s.vm.findClass R_G = some m.cls := hown
  have hP0 := hP
  have hS : va_S (gx_A hs 10) s.heap s.heap [] := va_S.rf
  have hD : va_D (gx_A hs 10) (gw_G ca hs rt wd ob ln kd qt df mk fd fc oc cn) := ⟨hD.1, gw_G_in⟩
  have hk : ∀ b, b < 16 → kd b < 34 := fun b hb => iv_kl hv.2.1 hb
  have ho : ∀ i, i < 512 → ob i < 513 := fun i hi => iv_lt hv.1 hi
  have hP : va_P D cl_all (gw_G ca hs rt wd ob ln kd qt df mk fd fc oc cn) s.heap := hP
  refine lv_iload_n hx hb d_G_allocate_0 rfl (lv_at hl 1 rfl) ?_
  refine lv_iconst (v := nI 1) hx hb d_G_allocate_1 (by decide +kernel) ?_
  refine nx_icmp_lt (tgt := 12) hx hb d_G_allocate_2 (by decide) (by omega) (by omega) (fun h2 => ?_) (fun h2 => ?_)
  · skip
    omega
  · skip
    refine lv_iload_n hx hb d_G_allocate_5 rfl (lv_at hl 1 rfl) ?_
    refine lv_sipush (v := nI 128) hx hb d_G_allocate_6 (by decide +kernel) ?_
    refine nx_icmp_le (tgt := 22) hx hb d_G_allocate_9 (by decide) (by omega) (by omega) (fun h9 => ?_) (fun h9 => ?_)
    · skip
      refine lv_aload_n hx hb d_G_allocate_22 rfl (lv_at hl 0 rfl) ?_
      refine lv_iload_n hx hb d_G_allocate_23 rfl (lv_at hl 1 rfl) ?_
      refine lv_iconst (v := zb_e false) hx hb d_G_allocate_24 (by decide +kernel) ?_
      refine gx_cV (n := 2) (q0 := 0) (ci := 0) (q := (R_G, F_G, 12)) (C := R_G) (own := R_G) (As := [.int (nI n), .int (zb_e false)]) (rest := []) ⟨hx, hb, hml, hown, ht⟩ hg_all (c_G_findRoom l D ca hs (rt) (wd) (ob) (ln) (kd) (qt) (df) (mk) (fd) (fc) (oc) (cn) (n) (by omega) (by omega) (false) (hk) (ho)) wm_253 wm_254 wm_13 wm_34 wm_255 ⟨rfl, by decide, by decide, by decide +kernel⟩ rfl ⟨rfl, rfl⟩ ⟨by decide, by decide⟩ ⟨by decide, by decide⟩ hK hP hD rfl rfl rfl hl.1 rfl (Nat.le_of_ble_eq_true rfl) d_G_allocate_25 ?_
      refine nx_top (show lr_e (rm_n (ob) (kd) (df) (n) false) = -1 from if_neg hr0) ?_
      refine lv_istore_n (lv' := [(3, .int (-1)), (0, .ref (hs 0)), (1, .int (nI n)), (2, .int (zb_e sl))]) hx hb d_G_allocate_28 rfl hl (by decide) rfl (fun ls hl => ?_)
      refine lv_iload_n hx hb d_G_allocate_29 rfl (lv_at hl 0 rfl) ?_
      refine lv_iconst (v := -1) hx hb d_G_allocate_30 (by decide +kernel) ?_
      refine lv_icmp_ne (tgt := 46) hx hb d_G_allocate_31 (by decide) (fun h => absurd rfl h) (fun _ => ?_)
      refine lv_aload_n hx hb d_G_allocate_34 rfl (lv_at hl 1 rfl) ?_
      refine gx_cM (n := 0) (q0 := 0) (ci := 0) (q := (R_G, F_G, 12)) (C := R_G) (own := R_G) (As := []) (rest := []) ⟨hx, hb, hml, hown, ht⟩ hg_all (c_G_collectNow l D ca hs (rt) (wd) (ob) (ln) (kd) (qt) (df) (mk) (fd) (fc) (oc) (cn) hv) wm_98 wm_99 wm_0 wm_34 wm_100 ⟨rfl, by decide, by decide, by decide +kernel⟩ rfl ⟨rfl, rfl⟩ ⟨by decide, by decide⟩ ⟨by decide, by decide⟩ hK hP hD hS (fun _ h => h) rfl rfl rfl hl.1 rfl (Nat.le_of_ble_eq_true rfl) d_G_allocate_35 (fun v w' H locs hZ hP hD hS _ _ => ?_)
      obtain ⟨rfl, fd2, fc2, rfl⟩ := hZ
      have hP : va_P D cl_all (gw_G ca hs rt (co_wd wd ob (co_mk rt wd ob ln qt)) (co_ob ob (co_mk rt wd ob ln qt)) ln (co_kd kd (co_ob ob (co_mk rt wd ob ln qt))) qt (co_df rt wd ob ln kd qt) (co_mk rt wd ob ln qt) fd2 fc2 (iv_c (co_ob ob (co_mk rt wd ob ln qt))) (cn + 1)) H := hP
      have hD : va_D (gx_A hs 10) (gw_G ca hs rt (co_wd wd ob (co_mk rt wd ob ln qt)) (co_ob ob (co_mk rt wd ob ln qt)) ln (co_kd kd (co_ob ob (co_mk rt wd ob ln qt))) qt (co_df rt wd ob ln kd qt) (co_mk rt wd ob ln qt) fd2 fc2 (iv_c (co_ob ob (co_mk rt wd ob ln qt))) (cn + 1)) := hD
      have hv2 := co_iv (co_mk rt wd ob ln qt) hv
      have hk : ∀ b, b < 16 → (co_kd kd (co_ob ob (co_mk rt wd ob ln qt))) b < 34 := fun b hb => iv_kl hv2.2.1 hb
      have ho : ∀ i, i < 512 → (co_ob ob (co_mk rt wd ob ln qt)) i < 513 := fun i hi => iv_lt hv2.1 hi
      refine lv_pop hx hb d_G_allocate_38 rfl ?_
      refine lv_aload_n hx hb d_G_allocate_39 rfl (lv_at hl 1 rfl) ?_
      refine lv_iload_n hx hb d_G_allocate_40 rfl (lv_at hl 2 rfl) ?_
      refine lv_iconst (v := zb_e false) hx hb d_G_allocate_41 (by decide +kernel) ?_
      refine gx_cV (n := 2) (q0 := 0) (ci := 0) (q := (R_G, F_G, 12)) (C := R_G) (own := R_G) (As := [.int (nI n), .int (zb_e false)]) (rest := []) ⟨hx, hb, hml, hown, ht⟩ hg_all (c_G_findRoom l D ca hs (rt) (co_wd wd ob (co_mk rt wd ob ln qt)) (co_ob ob (co_mk rt wd ob ln qt)) (ln) (co_kd kd (co_ob ob (co_mk rt wd ob ln qt))) (qt) (co_df rt wd ob ln kd qt) (co_mk rt wd ob ln qt) (fd2) (fc2) (iv_c (co_ob ob (co_mk rt wd ob ln qt))) (cn + 1) (n) (by omega) (by omega) (false) (hk) (ho)) wm_253 wm_254 wm_13 wm_34 wm_255 ⟨rfl, by decide, by decide, by decide +kernel⟩ rfl ⟨rfl, rfl⟩ ⟨by decide, by decide⟩ ⟨by decide, by decide⟩ hK hP hD rfl rfl rfl hl.1 rfl (Nat.le_of_ble_eq_true rfl) d_G_allocate_42 ?_
      refine nx_top (show lr_e (rm_n (co_ob ob (co_mk rt wd ob ln qt)) (co_kd kd (co_ob ob (co_mk rt wd ob ln qt))) (co_df rt wd ob ln kd qt) (n) false) = -1 from if_neg hr1) ?_
      refine lv_istore_n (lv' := [(3, .int (-1)), (0, .ref (hs 0)), (1, .int (nI n)), (2, .int (zb_e sl))]) hx hb d_G_allocate_45 rfl hl (by decide) rfl (fun ls hl => ?_)
      refine lv_iload_n hx hb d_G_allocate_46 rfl (lv_at hl 0 rfl) ?_
      refine lv_iconst (v := -1) hx hb d_G_allocate_47 (by decide +kernel) ?_
      refine lv_icmp_ne (tgt := 58) hx hb d_G_allocate_48 (by decide) (fun h => absurd rfl h) (fun _ => ?_)
      refine lv_aload_n hx hb d_G_allocate_51 rfl (lv_at hl 1 rfl) ?_
      refine lv_iload_n hx hb d_G_allocate_52 rfl (lv_at hl 2 rfl) ?_
      refine lv_iconst (v := zb_e true) hx hb d_G_allocate_53 (by decide +kernel) ?_
      refine gx_cV (n := 2) (q0 := 0) (ci := 0) (q := (R_G, F_G, 12)) (C := R_G) (own := R_G) (As := [.int (nI n), .int (zb_e true)]) (rest := []) ⟨hx, hb, hml, hown, ht⟩ hg_all (c_G_findRoom l D ca hs (rt) (co_wd wd ob (co_mk rt wd ob ln qt)) (co_ob ob (co_mk rt wd ob ln qt)) (ln) (co_kd kd (co_ob ob (co_mk rt wd ob ln qt))) (qt) (co_df rt wd ob ln kd qt) (co_mk rt wd ob ln qt) (fd2) (fc2) (iv_c (co_ob ob (co_mk rt wd ob ln qt))) (cn + 1) (n) (by omega) (by omega) (true) (hk) (ho)) wm_253 wm_254 wm_13 wm_34 wm_255 ⟨rfl, by decide, by decide, by decide +kernel⟩ rfl ⟨rfl, rfl⟩ ⟨by decide, by decide⟩ ⟨by decide, by decide⟩ hK hP hD rfl rfl rfl hl.1 rfl (Nat.le_of_ble_eq_true rfl) d_G_allocate_54 ?_
      refine nx_top (show lr_e (rm_n (co_ob ob (co_mk rt wd ob ln qt)) (co_kd kd (co_ob ob (co_mk rt wd ob ln qt))) (co_df rt wd ob ln kd qt) (n) true) = -1 from if_neg hr2) ?_
      refine lv_istore_n (lv' := [(3, .int (-1)), (0, .ref (hs 0)), (1, .int (nI n)), (2, .int (zb_e sl))]) hx hb d_G_allocate_57 rfl hl (by decide) rfl (fun ls hl => ?_)
      refine lv_iload_n hx hb d_G_allocate_58 rfl (lv_at hl 0 rfl) ?_
      refine lv_iconst (v := -1) hx hb d_G_allocate_59 (by decide +kernel) ?_
      refine lv_icmp_ne (tgt := 73) hx hb d_G_allocate_60 (by decide) (fun h => absurd rfl h) (fun _ => ?_)
      refine xs_go (cls := X_ISE) (tx := "there is no room") hx hb htr hown hno hlk (by decide) (by intro n hn; simp only [List.mem_cons, List.not_mem_nil, or_false] at hn; rcases hn with rfl | rfl <;> decide) (xs_ISE ht hT) (ht _ wm_268) (ht _ wm_43) (hT.2 (71, "there is no room") (List.mem_of_getElem? (i := 1) rfl)) d_G_allocate_63 d_G_allocate_66 d_G_allocate_67 d_G_allocate_69 d_G_allocate_72 (hl.1.trans hml.symm) (fun x hx cell hc => by obtain ⟨k, e, hk⟩ := gw_G_at (hS.2.2 x hx); exact xs_va hP0 hk hc) hS.1 ⟨by decide, by decide⟩ ⟨by decide, by decide⟩ (fun q hq => hS.2.2 q hq) (xs_end hP ⟨fd2, fc2, rfl⟩ (gw_G_adr.trans gw_G_adr.symm) hS (va_lt hP))
    · skip
      omega

