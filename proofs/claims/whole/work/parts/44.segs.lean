/-! the law's cases -/
section SH
variable {p : Program} {l : Launch} {e : Env} {s : State} {m : MethodId} {below : List Frame} {meth : Method} {c : Code} {b L : Nat} {xs : Nat → Int32} {D : va_G} {ca : Nat → ClassId} {hs : Nat → Nat} {ca2 : Nat → ClassId} {gs : Nat → Nat} {cL : ClassId} {oa : Nat} {H : Heap} {cells slots : Nat} {Q : State → Prop} {pc : Nat} {ls : Array Slot} {rest st0 : List Value}
variable {rt wd : Nat → Int32} {ob ln kd : Nat → Nat} {qt df : Nat → Bool} {cn : Nat} {w w2 : va_W} {th : Nat} {ov : Nat → Int64}
/-- a method of the class is called -/
theorem lw_gcall {y : MethodName} {bytes : ByteArray} {maxL index n : Nat} {ret' : Option FieldType} {rm : Room} {As : List Value} {Z : Option Value → va_W → Prop} (C : lw_C p l s m meth c b L xs D ca hs ca2 gs cL oa) (hG : wG ca hs rt wd ob ln kd qt df cn w) (hMw : wM ca2 gs rt wd ob ln kd qt df cn th w2) (hP : va_P D cl_all w H) (hP2 : va_P D cl_all w2 H) (hPo : va_P D cl_all (hq_o oa cL ov) H) (hS : va_S (lw_A s) s.heap H [])
    (hM : Met l y (Cond.code y bytes maxL ret' :: wa_all) rm (va_Pc (.ref (hs 0) :: As) (gx_I D cl_all (ty_G ca) w)) (gx_Q D cl_all (gx_A hs 10) w Z) 0 0 (gx_A hs 10))
    (h1 : Cond.methodLink R_L index y ∈ wa_all) (h2 : Cond.instanceMethod y ∈ wa_all) (h3 : Cond.selects R_G y y ∈ wa_all) (h4 : Cond.initialized R_G ∈ wa_all) (h5 : Cond.code y bytes maxL ret' ∈ wa_all)
    (hd : y.cls = R_G ∧ y.cls ≠ "java/lang/invoke/MethodHandle" ∧ y.cls ≠ "java/lang/invoke/VarHandle" ∧ (parseMethodDescriptor y.desc).map (fun d => d.parameters.length) = some n) (hn : As.length = n)
    (hrc : rm.cells = 0 ∧ rm.slots = 0) (hR : rm.frames + 1 ≤ room_1.frames ∧ 8 + (maxL + 11) + rm.locals ≤ room_1.locals) (hf : cells + 0 ≤ room_1.cells ∧ slots + 0 ≤ room_1.slots)
    (hsize : ls.size = 7) (hst : st0 = As.reverse ++ .ref (hs 0) :: rest) (hW : (rest.map fun v => v.category).sum ≤ 8) (hdg : decode code pc = .ok (.invokevirtual index, 3))
    (kk : ∀ (v : Option Value) (H1 : Heap) (w' : va_W), Z v w' → va_P D cl_all w' H1 → va_P D cl_all w2 H1 → va_P D cl_all (hq_o oa cL ov) H1 → va_S (lw_A s) s.heap H1 [] → W p l e room_1 s m #[Value.ref b] below meth c H1 [] cells slots Q (F0 m (pc + 3) ls (v.toList ++ rest))) :
    W p l e room_1 s m #[Value.ref b] below meth c H [] cells slots Q (F0 m pc ls st0) := by
  obtain ⟨⟨hx, hb, hrt, hml, hown, ht, hX, hbl, hlk, hL⟩, ⟨htr, hT, hN⟩, ⟨hKG, hKM, hKo⟩, ⟨d1, d2, d3, d4, d5, d6, d7, d8⟩⟩ := C
  obtain ⟨mk, fd, fc, rfl⟩ := hG
  obtain ⟨mk2, gv, rfl⟩ := hMw
  refine gx_cM (q0 := 0) (ci := 0) (q := (R_G, F_G, 12)) (A := lw_A s) (H0 := s.heap) ⟨hx, hb, hml, hown, ht⟩ hg_all hM h1 h2 h3 h4 h5 hd hn hrc hR hf hKG hP (wG_D d7 (fun k hk => d1 k hk)) hS (fun q hq => by obtain ⟨j, hj, rfl⟩ := hq; exact d1 j hj) rfl rfl rfl hsize hst hW hdg (fun v w' H1 locs1 hZ hP' hD' hS1 g1 g2 => ?_)
  refine va_forget hS1.2.2 ?_
  refine kk v H1 w' hZ hP' (hP2.kept (fun i q hi => g2 _ (va_lt hP2 i q hi) (fun h => ?_))) (hPo.kept (fun i q hi => g2 _ (va_lt hPo i q hi) (fun h => ?_))) ⟨hS1.1, hS1.2.1, fun q hq => by cases hq⟩
  · obtain ⟨j, hj, ej⟩ := gw_M_in i q hi
    obtain ⟨j', hj', e'⟩ := h
    exact d4 j' hj' j hj (e'.symm.trans ej)
  · have hz : i < 1 := (List.getElem?_eq_some_iff.mp hi).1
    rw [show i = 0 by omega] at hi
    cases hi
    obtain ⟨j', hj', e'⟩ := h
    exact d5 j' hj' e'.symm

set_option maxHeartbeats 4000000 in
set_option maxRecDepth 100000 in
theorem sg_0 {j : Nat} (C : lw_C p l s m meth c b L xs D ca hs ca2 gs cL oa) (V : lw_V s D ca hs ca2 gs cL oa H rt wd ob ln kd qt df cn w w2 th ov) (hv : iv_a ob ln kd wd (iv_c ob)) (hl : lv_has ls 7 (lw_lv b (hs 0) (gs 0) oa j)) (hj : 3 * j + 2 < L) (K : lw_K p l e s m below meth c b D ca hs ca2 gs cL oa j Q) : W p l e room_1 s m #[Value.ref b] below meth c H [] (20 + j) (5480 + 6 * j) Q (F0 m 104 ls []) := by
  have hx := C.1.1
  have hb := C.1.2.1
  have htr := C.2.1.1
  have hL := C.1.2.2.2.2.2.2.2.2.2
  obtain ⟨hG, hM, hP, hP2, hPo, hS⟩ := V
  obtain ⟨k, r, rt', wd', ob', ln', kd', qt', df', cn', hk3, hv', hH, hMM⟩ := lo_allocate l htr D ca hs ca2 gs cL oa rt wd ob ln kd qt df cn w w2 th ov hG hM hv (xs (3 * j + 1)) (decide (xs (3 * j + 2) ≠ 0))
  refine lv_aload_n hx hb d_L_law_104 rfl (lv_at hl 1 rfl) ?_
  refine sc_ld (j := j) (t := 1) (i1 := 1) C hS (lv_at hl 0 rfl) (lv_at hl 4 rfl) (by omega) ⟨rfl, rfl⟩ d_L_law_105 d_L_law_106 (fun R r k => lv_iconst (v := nI 1) hx hb d_L_law_108 (by decide +kernel) k) d_L_law_109 d_L_law_110 ?_
  refine sc_ld (j := j) (t := 2) (i1 := 2) C hS (lv_at hl 0 rfl) (lv_at hl 4 rfl) (by omega) ⟨rfl, rfl⟩ d_L_law_111 d_L_law_112 (fun R r k => lv_iconst (v := nI 2) hx hb d_L_law_114 (by decide +kernel) k) d_L_law_115 d_L_law_116 ?_
  refine sc_bool hx hb d_L_law_117 d_L_law_120 d_L_law_121 d_L_law_124 ?_
  refine lv_aload_n hx hb d_L_law_125 rfl (lv_at hl 3 rfl) ?_
  refine lw_hcall (n := 4) (y := y_L_allocate) (As := [.ref (hs 0), .int (xs (3 * j + 1)), .int (zb_e (decide (xs (3 * j + 2) ≠ 0))), .ref oa]) (rest := []) (Z := wG ca hs rt' wd' ob' ln' kd' qt' df' cn') (Y := fun ov' => nI k = 0 → ov' 0 = r.toInt64) C ⟨hG, hM, hP, hP2, hPo, hS⟩ hH wm_242 wm_243 wm_33 wm_244 ⟨by decide, by decide, by decide +kernel⟩ rfl (by decide) ⟨by show 20 + j + 1 ≤ 601024; omega, by show 5480 + 6 * j + 6 ≤ 7293034; omega⟩ hl.1 rfl (Nat.le_of_ble_eq_true rfl) d_L_law_126 (fun H w' ov' hG' hP hP2 hPo hov hS => ?_)
  refine lv_istore (lv' := (5, .int (nI k)) :: lw_lv b (hs 0) (gs 0) oa j) hx hb d_L_law_129 hl (by decide) rfl (fun ls hl => ?_)
  refine lv_aload_n hx hb d_L_law_131 rfl (lv_at hl 3 rfl) ?_
  refine sc_ld (j := j) (t := 1) (i1 := 1) C hS (lv_at hl 1 rfl) (lv_at hl 5 rfl) (by omega) ⟨rfl, rfl⟩ d_L_law_132 d_L_law_133 (fun R r k => lv_iconst (v := nI 1) hx hb d_L_law_135 (by decide +kernel) k) d_L_law_136 d_L_law_137 ?_
  refine sc_ld (j := j) (t := 2) (i1 := 2) C hS (lv_at hl 1 rfl) (lv_at hl 5 rfl) (by omega) ⟨rfl, rfl⟩ d_L_law_138 d_L_law_139 (fun R r k => lv_iconst (v := nI 2) hx hb d_L_law_141 (by decide +kernel) k) d_L_law_142 d_L_law_143 ?_
  refine sc_bool hx hb d_L_law_144 d_L_law_147 d_L_law_148 d_L_law_151 ?_
  refine lw_mcall (n := 2) (y := y_M_allocate) (As := [.int (xs (3 * j + 1)), .int (zb_e (decide (xs (3 * j + 2) ≠ 0)))]) (rest := []) C hG' ⟨rt, wd, ob, ln, kd, qt, df, cn, th, hM⟩ hP hP2 hPo hS hMM wm_384 wm_385 wm_386 wm_36 wm_387 ⟨rfl, by decide, by decide, by decide +kernel⟩ rfl ⟨rfl, rfl⟩ ⟨by decide, by decide⟩ ⟨by show 20 + j + 1 + 0 ≤ 601024; omega, by show 5480 + 6 * j + 6 + 0 ≤ 7293034; omega⟩ hl.1 rfl (Nat.le_of_ble_eq_true rfl) d_L_law_152 (fun v H w2' hZ hP hP2 hPo hS => ?_)
  obtain ⟨rfl, hM'⟩ := hZ
  refine lv_istore (lv' := (6, .int r) :: (5, .int (nI k)) :: lw_lv b (hs 0) (gs 0) oa j) hx hb d_L_law_155 hl (by decide) rfl (fun ls hl => ?_)
  refine sc_th (k := k) C ⟨hG', hM', hP, hP2, hPo, hS⟩ hl.1 ⟨by show 20 + j + 1 ≤ 601024; omega, by show 5480 + 6 * j + 6 ≤ 7293034; omega⟩ (lv_at hl 4 rfl) (lv_at hl 1 rfl) d_L_law_157 d_L_law_158 d_L_law_161 d_L_law_163 ?_
  refine sc_cmp (k := k) (r := r) C ⟨hG', hM', hP, hP2, hPo, hS⟩ hov (lv_at hl 5 rfl) (lv_at hl 1 rfl) (lv_at hl 0 rfl) d_L_law_168 d_L_law_170 d_L_law_173 d_L_law_174 d_L_law_175 d_L_law_176 d_L_law_178 d_L_law_179 d_L_law_180 d_L_law_185 (by decide) ?_
  refine W.widen (k := 21 + j) (n := 5486 + 6 * j) (by omega) (by omega) ?_
  exact K H rt' wd' ob' ln' kd' qt' df' cn' w' w2' k ov' ls ⟨hG', hM', hP, hP2, hPo, hS⟩ hv' (lv_sub hl [2, 3, 4, 5, 6] rfl)

set_option maxHeartbeats 4000000 in
set_option maxRecDepth 100000 in
theorem sg_1 {j : Nat} (C : lw_C p l s m meth c b L xs D ca hs ca2 gs cL oa) (V : lw_V s D ca hs ca2 gs cL oa H rt wd ob ln kd qt df cn w w2 th ov) (hv : iv_a ob ln kd wd (iv_c ob)) (hl : lv_has ls 7 (lw_lv b (hs 0) (gs 0) oa j)) (hj : 3 * j + 2 < L) (K : lw_K p l e s m below meth c b D ca hs ca2 gs cL oa j Q) : W p l e room_1 s m #[Value.ref b] below meth c H [] (20 + j) (5480 + 6 * j) Q (F0 m 188 ls []) := by
  have hx := C.1.1
  have hb := C.1.2.1
  have htr := C.2.1.1
  have hL := C.1.2.2.2.2.2.2.2.2.2
  obtain ⟨hG, hM, hP, hP2, hPo, hS⟩ := V
  obtain ⟨k, rt', wd', ob', ln', kd', qt', df', cn', hk3, hv', hH, hMM⟩ := lo_root l htr D ca hs ca2 gs cL oa rt wd ob ln kd qt df cn w w2 th ov hG hM hv (xs (3 * j + 1)) (xs (3 * j + 2))
  refine lv_aload_n hx hb d_L_law_188 rfl (lv_at hl 1 rfl) ?_
  refine sc_ld (j := j) (t := 1) (i1 := 1) C hS (lv_at hl 0 rfl) (lv_at hl 4 rfl) (by omega) ⟨rfl, rfl⟩ d_L_law_189 d_L_law_190 (fun R r k => lv_iconst (v := nI 1) hx hb d_L_law_192 (by decide +kernel) k) d_L_law_193 d_L_law_194 ?_
  refine sc_ld (j := j) (t := 2) (i1 := 2) C hS (lv_at hl 0 rfl) (lv_at hl 4 rfl) (by omega) ⟨rfl, rfl⟩ d_L_law_195 d_L_law_196 (fun R r k => lv_iconst (v := nI 2) hx hb d_L_law_198 (by decide +kernel) k) d_L_law_199 d_L_law_200 ?_
  refine lw_hcall (n := 3) (y := y_L_root) (As := [.ref (hs 0), .int (xs (3 * j + 1)), .int (xs (3 * j + 2))]) (rest := []) (Z := wG ca hs rt' wd' ob' ln' kd' qt' df' cn') (Y := fun ov' => ov' = ov) C ⟨hG, hM, hP, hP2, hPo, hS⟩ hH wm_294 wm_295 wm_33 wm_296 ⟨by decide, by decide, by decide +kernel⟩ rfl (by decide) ⟨by show 20 + j + 1 ≤ 601024; omega, by show 5480 + 6 * j + 6 ≤ 7293034; omega⟩ hl.1 rfl (Nat.le_of_ble_eq_true rfl) d_L_law_201 (fun H w' ov' hG' hP hP2 hPo hov hS => ?_)
  refine lv_istore (lv' := (5, .int (nI k)) :: lw_lv b (hs 0) (gs 0) oa j) hx hb d_L_law_204 hl (by decide) rfl (fun ls hl => ?_)
  refine lv_aload_n hx hb d_L_law_206 rfl (lv_at hl 3 rfl) ?_
  refine sc_ld (j := j) (t := 1) (i1 := 1) C hS (lv_at hl 1 rfl) (lv_at hl 5 rfl) (by omega) ⟨rfl, rfl⟩ d_L_law_207 d_L_law_208 (fun R r k => lv_iconst (v := nI 1) hx hb d_L_law_210 (by decide +kernel) k) d_L_law_211 d_L_law_212 ?_
  refine sc_ld (j := j) (t := 2) (i1 := 2) C hS (lv_at hl 1 rfl) (lv_at hl 5 rfl) (by omega) ⟨rfl, rfl⟩ d_L_law_213 d_L_law_214 (fun R r k => lv_iconst (v := nI 2) hx hb d_L_law_216 (by decide +kernel) k) d_L_law_217 d_L_law_218 ?_
  refine lw_mcall (n := 2) (y := y_M_root) (As := [.int (xs (3 * j + 1)), .int (xs (3 * j + 2))]) (rest := []) C hG' ⟨rt, wd, ob, ln, kd, qt, df, cn, th, hM⟩ hP hP2 hPo hS hMM wm_431 wm_432 wm_433 wm_36 wm_434 ⟨rfl, by decide, by decide, by decide +kernel⟩ rfl ⟨rfl, rfl⟩ ⟨by decide, by decide⟩ ⟨by show 20 + j + 1 + 0 ≤ 601024; omega, by show 5480 + 6 * j + 6 + 0 ≤ 7293034; omega⟩ hl.1 rfl (Nat.le_of_ble_eq_true rfl) d_L_law_219 (fun v H w2' hZ hP hP2 hPo hS => ?_)
  obtain ⟨rfl, hM'⟩ := hZ
  refine sc_th (k := k) C ⟨hG', hM', hP, hP2, hPo, hS⟩ hl.1 ⟨by show 20 + j + 1 ≤ 601024; omega, by show 5480 + 6 * j + 6 ≤ 7293034; omega⟩ (lv_at hl 3 rfl) (lv_at hl 0 rfl) d_L_law_222 d_L_law_223 d_L_law_226 d_L_law_228 ?_
  refine lv_goto (tgt := 580) hx hb d_L_law_233 (by decide) ?_
  refine W.widen (k := 21 + j) (n := 5486 + 6 * j) (by omega) (by omega) ?_
  exact K H rt' wd' ob' ln' kd' qt' df' cn' w' w2' k ov' ls ⟨hG', hM', hP, hP2, hPo, hS⟩ hv' (lv_sub hl [1, 2, 3, 4, 5] rfl)

set_option maxHeartbeats 4000000 in
set_option maxRecDepth 100000 in
theorem sg_2 {j : Nat} (C : lw_C p l s m meth c b L xs D ca hs ca2 gs cL oa) (V : lw_V s D ca hs ca2 gs cL oa H rt wd ob ln kd qt df cn w w2 th ov) (hv : iv_a ob ln kd wd (iv_c ob)) (hl : lv_has ls 7 (lw_lv b (hs 0) (gs 0) oa j)) (hj : 3 * j + 2 < L) (K : lw_K p l e s m below meth c b D ca hs ca2 gs cL oa j Q) : W p l e room_1 s m #[Value.ref b] below meth c H [] (20 + j) (5480 + 6 * j) Q (F0 m 236 ls []) := by
  have hx := C.1.1
  have hb := C.1.2.1
  have htr := C.2.1.1
  have hL := C.1.2.2.2.2.2.2.2.2.2
  obtain ⟨hG, hM, hP, hP2, hPo, hS⟩ := V
  obtain ⟨k, r, rt', wd', ob', ln', kd', qt', df', cn', hk3, hv', hH, hMM⟩ := lo_rooted l htr D ca hs ca2 gs cL oa rt wd ob ln kd qt df cn w w2 th ov hG hM hv (xs (3 * j + 1))
  refine lv_aload_n hx hb d_L_law_236 rfl (lv_at hl 1 rfl) ?_
  refine sc_ld (j := j) (t := 1) (i1 := 1) C hS (lv_at hl 0 rfl) (lv_at hl 4 rfl) (by omega) ⟨rfl, rfl⟩ d_L_law_237 d_L_law_238 (fun R r k => lv_iconst (v := nI 1) hx hb d_L_law_240 (by decide +kernel) k) d_L_law_241 d_L_law_242 ?_
  refine lv_aload_n hx hb d_L_law_243 rfl (lv_at hl 3 rfl) ?_
  refine lw_hcall (n := 3) (y := y_L_rooted) (As := [.ref (hs 0), .int (xs (3 * j + 1)), .ref oa]) (rest := []) (Z := wG ca hs rt' wd' ob' ln' kd' qt' df' cn') (Y := fun ov' => nI k = 0 → ov' 0 = r.toInt64) C ⟨hG, hM, hP, hP2, hPo, hS⟩ hH wm_316 wm_317 wm_33 wm_318 ⟨by decide, by decide, by decide +kernel⟩ rfl (by decide) ⟨by show 20 + j + 1 ≤ 601024; omega, by show 5480 + 6 * j + 6 ≤ 7293034; omega⟩ hl.1 rfl (Nat.le_of_ble_eq_true rfl) d_L_law_244 (fun H w' ov' hG' hP hP2 hPo hov hS => ?_)
  refine lv_istore (lv' := (5, .int (nI k)) :: lw_lv b (hs 0) (gs 0) oa j) hx hb d_L_law_247 hl (by decide) rfl (fun ls hl => ?_)
  refine lv_aload_n hx hb d_L_law_249 rfl (lv_at hl 3 rfl) ?_
  refine sc_ld (j := j) (t := 1) (i1 := 1) C hS (lv_at hl 1 rfl) (lv_at hl 5 rfl) (by omega) ⟨rfl, rfl⟩ d_L_law_250 d_L_law_251 (fun R r k => lv_iconst (v := nI 1) hx hb d_L_law_253 (by decide +kernel) k) d_L_law_254 d_L_law_255 ?_
  refine lw_mcall (n := 1) (y := y_M_rooted) (As := [.int (xs (3 * j + 1))]) (rest := []) C hG' ⟨rt, wd, ob, ln, kd, qt, df, cn, th, hM⟩ hP hP2 hPo hS hMM wm_435 wm_436 wm_437 wm_36 wm_438 ⟨rfl, by decide, by decide, by decide +kernel⟩ rfl ⟨rfl, rfl⟩ ⟨by decide, by decide⟩ ⟨by show 20 + j + 1 + 0 ≤ 601024; omega, by show 5480 + 6 * j + 6 + 0 ≤ 7293034; omega⟩ hl.1 rfl (Nat.le_of_ble_eq_true rfl) d_L_law_256 (fun v H w2' hZ hP hP2 hPo hS => ?_)
  obtain ⟨rfl, hM'⟩ := hZ
  refine lv_istore (lv' := (6, .int r) :: (5, .int (nI k)) :: lw_lv b (hs 0) (gs 0) oa j) hx hb d_L_law_259 hl (by decide) rfl (fun ls hl => ?_)
  refine sc_th (k := k) C ⟨hG', hM', hP, hP2, hPo, hS⟩ hl.1 ⟨by show 20 + j + 1 ≤ 601024; omega, by show 5480 + 6 * j + 6 ≤ 7293034; omega⟩ (lv_at hl 4 rfl) (lv_at hl 1 rfl) d_L_law_261 d_L_law_262 d_L_law_265 d_L_law_267 ?_
  refine sc_cmp (k := k) (r := r) C ⟨hG', hM', hP, hP2, hPo, hS⟩ hov (lv_at hl 5 rfl) (lv_at hl 1 rfl) (lv_at hl 0 rfl) d_L_law_272 d_L_law_274 d_L_law_277 d_L_law_278 d_L_law_279 d_L_law_280 d_L_law_282 d_L_law_283 d_L_law_284 d_L_law_289 (by decide) ?_
  refine W.widen (k := 21 + j) (n := 5486 + 6 * j) (by omega) (by omega) ?_
  exact K H rt' wd' ob' ln' kd' qt' df' cn' w' w2' k ov' ls ⟨hG', hM', hP, hP2, hPo, hS⟩ hv' (lv_sub hl [2, 3, 4, 5, 6] rfl)

set_option maxHeartbeats 4000000 in
set_option maxRecDepth 100000 in
theorem sg_3 {j : Nat} (C : lw_C p l s m meth c b L xs D ca hs ca2 gs cL oa) (V : lw_V s D ca hs ca2 gs cL oa H rt wd ob ln kd qt df cn w w2 th ov) (hv : iv_a ob ln kd wd (iv_c ob)) (hl : lv_has ls 7 (lw_lv b (hs 0) (gs 0) oa j)) (hj : 3 * j + 2 < L) (K : lw_K p l e s m below meth c b D ca hs ca2 gs cL oa j Q) : W p l e room_1 s m #[Value.ref b] below meth c H [] (20 + j) (5480 + 6 * j) Q (F0 m 292 ls []) := by
  have hx := C.1.1
  have hb := C.1.2.1
  have htr := C.2.1.1
  have hL := C.1.2.2.2.2.2.2.2.2.2
  obtain ⟨hG, hM, hP, hP2, hPo, hS⟩ := V
  obtain ⟨k, r, rt', wd', ob', ln', kd', qt', df', cn', hk3, hv', hH, hMM⟩ := lo_read l htr D ca hs ca2 gs cL oa rt wd ob ln kd qt df cn w w2 th ov hG hM hv (xs (3 * j + 1))
  refine lv_aload_n hx hb d_L_law_292 rfl (lv_at hl 1 rfl) ?_
  refine sc_ld (j := j) (t := 1) (i1 := 1) C hS (lv_at hl 0 rfl) (lv_at hl 4 rfl) (by omega) ⟨rfl, rfl⟩ d_L_law_293 d_L_law_294 (fun R r k => lv_iconst (v := nI 1) hx hb d_L_law_296 (by decide +kernel) k) d_L_law_297 d_L_law_298 ?_
  refine lv_aload_n hx hb d_L_law_299 rfl (lv_at hl 3 rfl) ?_
  refine lw_hcall (n := 3) (y := y_L_read) (As := [.ref (hs 0), .int (xs (3 * j + 1)), .ref oa]) (rest := []) (Z := wG ca hs rt' wd' ob' ln' kd' qt' df' cn') (Y := fun ov' => nI k = 0 → ov' 0 = r.toInt64) C ⟨hG, hM, hP, hP2, hPo, hS⟩ hH wm_323 wm_324 wm_33 wm_325 ⟨by decide, by decide, by decide +kernel⟩ rfl (by decide) ⟨by show 20 + j + 1 ≤ 601024; omega, by show 5480 + 6 * j + 6 ≤ 7293034; omega⟩ hl.1 rfl (Nat.le_of_ble_eq_true rfl) d_L_law_300 (fun H w' ov' hG' hP hP2 hPo hov hS => ?_)
  refine lv_istore (lv' := (5, .int (nI k)) :: lw_lv b (hs 0) (gs 0) oa j) hx hb d_L_law_303 hl (by decide) rfl (fun ls hl => ?_)
  refine lv_aload_n hx hb d_L_law_305 rfl (lv_at hl 3 rfl) ?_
  refine sc_ld (j := j) (t := 1) (i1 := 1) C hS (lv_at hl 1 rfl) (lv_at hl 5 rfl) (by omega) ⟨rfl, rfl⟩ d_L_law_306 d_L_law_307 (fun R r k => lv_iconst (v := nI 1) hx hb d_L_law_309 (by decide +kernel) k) d_L_law_310 d_L_law_311 ?_
  refine lw_mcall (n := 1) (y := y_M_read) (As := [.int (xs (3 * j + 1))]) (rest := []) C hG' ⟨rt, wd, ob, ln, kd, qt, df, cn, th, hM⟩ hP hP2 hPo hS hMM wm_439 wm_440 wm_441 wm_36 wm_442 ⟨rfl, by decide, by decide, by decide +kernel⟩ rfl ⟨rfl, rfl⟩ ⟨by decide, by decide⟩ ⟨by show 20 + j + 1 + 0 ≤ 601024; omega, by show 5480 + 6 * j + 6 + 0 ≤ 7293034; omega⟩ hl.1 rfl (Nat.le_of_ble_eq_true rfl) d_L_law_312 (fun v H w2' hZ hP hP2 hPo hS => ?_)
  obtain ⟨rfl, hM'⟩ := hZ
  refine lv_istore (lv' := (6, .int r) :: (5, .int (nI k)) :: lw_lv b (hs 0) (gs 0) oa j) hx hb d_L_law_315 hl (by decide) rfl (fun ls hl => ?_)
  refine sc_th (k := k) C ⟨hG', hM', hP, hP2, hPo, hS⟩ hl.1 ⟨by show 20 + j + 1 ≤ 601024; omega, by show 5480 + 6 * j + 6 ≤ 7293034; omega⟩ (lv_at hl 4 rfl) (lv_at hl 1 rfl) d_L_law_317 d_L_law_318 d_L_law_321 d_L_law_323 ?_
  refine sc_cmp (k := k) (r := r) C ⟨hG', hM', hP, hP2, hPo, hS⟩ hov (lv_at hl 5 rfl) (lv_at hl 1 rfl) (lv_at hl 0 rfl) d_L_law_328 d_L_law_330 d_L_law_333 d_L_law_334 d_L_law_335 d_L_law_336 d_L_law_338 d_L_law_339 d_L_law_340 d_L_law_345 (by decide) ?_
  refine W.widen (k := 21 + j) (n := 5486 + 6 * j) (by omega) (by omega) ?_
  exact K H rt' wd' ob' ln' kd' qt' df' cn' w' w2' k ov' ls ⟨hG', hM', hP, hP2, hPo, hS⟩ hv' (lv_sub hl [2, 3, 4, 5, 6] rfl)

set_option maxHeartbeats 4000000 in
set_option maxRecDepth 100000 in
theorem sg_4 {j : Nat} (C : lw_C p l s m meth c b L xs D ca hs ca2 gs cL oa) (V : lw_V s D ca hs ca2 gs cL oa H rt wd ob ln kd qt df cn w w2 th ov) (hv : iv_a ob ln kd wd (iv_c ob)) (hl : lv_has ls 7 (lw_lv b (hs 0) (gs 0) oa j)) (hj : 3 * j + 2 < L) (K : lw_K p l e s m below meth c b D ca hs ca2 gs cL oa j Q) : W p l e room_1 s m #[Value.ref b] below meth c H [] (20 + j) (5480 + 6 * j) Q (F0 m 348 ls []) := by
  have hx := C.1.1
  have hb := C.1.2.1
  have htr := C.2.1.1
  have hL := C.1.2.2.2.2.2.2.2.2.2
  obtain ⟨hG, hM, hP, hP2, hPo, hS⟩ := V
  obtain ⟨k, r, rt', wd', ob', ln', kd', qt', df', cn', hk3, hv', hH, hMM⟩ := lo_write l htr D ca hs ca2 gs cL oa rt wd ob ln kd qt df cn w w2 th ov hG hM hv (xs (3 * j + 1)) (xs (3 * j + 2))
  refine lv_aload_n hx hb d_L_law_348 rfl (lv_at hl 1 rfl) ?_
  refine sc_ld (j := j) (t := 1) (i1 := 1) C hS (lv_at hl 0 rfl) (lv_at hl 4 rfl) (by omega) ⟨rfl, rfl⟩ d_L_law_349 d_L_law_350 (fun R r k => lv_iconst (v := nI 1) hx hb d_L_law_352 (by decide +kernel) k) d_L_law_353 d_L_law_354 ?_
  refine sc_ld (j := j) (t := 2) (i1 := 2) C hS (lv_at hl 0 rfl) (lv_at hl 4 rfl) (by omega) ⟨rfl, rfl⟩ d_L_law_355 d_L_law_356 (fun R r k => lv_iconst (v := nI 2) hx hb d_L_law_358 (by decide +kernel) k) d_L_law_359 d_L_law_360 ?_
  refine lv_aload_n hx hb d_L_law_361 rfl (lv_at hl 3 rfl) ?_
  refine lw_hcall (n := 4) (y := y_L_write) (As := [.ref (hs 0), .int (xs (3 * j + 1)), .int (xs (3 * j + 2)), .ref oa]) (rest := []) (Z := wG ca hs rt' wd' ob' ln' kd' qt' df' cn') (Y := fun ov' => nI k = 0 → ov' 0 = r.toInt64) C ⟨hG, hM, hP, hP2, hPo, hS⟩ hH wm_333 wm_334 wm_33 wm_335 ⟨by decide, by decide, by decide +kernel⟩ rfl (by decide) ⟨by show 20 + j + 1 ≤ 601024; omega, by show 5480 + 6 * j + 6 ≤ 7293034; omega⟩ hl.1 rfl (Nat.le_of_ble_eq_true rfl) d_L_law_362 (fun H w' ov' hG' hP hP2 hPo hov hS => ?_)
  refine lv_istore (lv' := (5, .int (nI k)) :: lw_lv b (hs 0) (gs 0) oa j) hx hb d_L_law_365 hl (by decide) rfl (fun ls hl => ?_)
  refine lv_aload_n hx hb d_L_law_367 rfl (lv_at hl 3 rfl) ?_
  refine sc_ld (j := j) (t := 1) (i1 := 1) C hS (lv_at hl 1 rfl) (lv_at hl 5 rfl) (by omega) ⟨rfl, rfl⟩ d_L_law_368 d_L_law_369 (fun R r k => lv_iconst (v := nI 1) hx hb d_L_law_371 (by decide +kernel) k) d_L_law_372 d_L_law_373 ?_
  refine sc_ld (j := j) (t := 2) (i1 := 2) C hS (lv_at hl 1 rfl) (lv_at hl 5 rfl) (by omega) ⟨rfl, rfl⟩ d_L_law_374 d_L_law_375 (fun R r k => lv_iconst (v := nI 2) hx hb d_L_law_377 (by decide +kernel) k) d_L_law_378 d_L_law_379 ?_
  refine lw_mcall (n := 2) (y := y_M_write) (As := [.int (xs (3 * j + 1)), .int (xs (3 * j + 2))]) (rest := []) C hG' ⟨rt, wd, ob, ln, kd, qt, df, cn, th, hM⟩ hP hP2 hPo hS hMM wm_446 wm_447 wm_448 wm_36 wm_449 ⟨rfl, by decide, by decide, by decide +kernel⟩ rfl ⟨rfl, rfl⟩ ⟨by decide, by decide⟩ ⟨by show 20 + j + 1 + 0 ≤ 601024; omega, by show 5480 + 6 * j + 6 + 0 ≤ 7293034; omega⟩ hl.1 rfl (Nat.le_of_ble_eq_true rfl) d_L_law_380 (fun v H w2' hZ hP hP2 hPo hS => ?_)
  obtain ⟨rfl, hM'⟩ := hZ
  refine lv_istore (lv' := (6, .int r) :: (5, .int (nI k)) :: lw_lv b (hs 0) (gs 0) oa j) hx hb d_L_law_383 hl (by decide) rfl (fun ls hl => ?_)
  refine sc_th (k := k) C ⟨hG', hM', hP, hP2, hPo, hS⟩ hl.1 ⟨by show 20 + j + 1 ≤ 601024; omega, by show 5480 + 6 * j + 6 ≤ 7293034; omega⟩ (lv_at hl 4 rfl) (lv_at hl 1 rfl) d_L_law_385 d_L_law_386 d_L_law_389 d_L_law_391 ?_
  refine sc_cmp (k := k) (r := r) C ⟨hG', hM', hP, hP2, hPo, hS⟩ hov (lv_at hl 5 rfl) (lv_at hl 1 rfl) (lv_at hl 0 rfl) d_L_law_396 d_L_law_398 d_L_law_401 d_L_law_402 d_L_law_403 d_L_law_404 d_L_law_406 d_L_law_407 d_L_law_408 d_L_law_413 (by decide) ?_
  refine W.widen (k := 21 + j) (n := 5486 + 6 * j) (by omega) (by omega) ?_
  exact K H rt' wd' ob' ln' kd' qt' df' cn' w' w2' k ov' ls ⟨hG', hM', hP, hP2, hPo, hS⟩ hv' (lv_sub hl [2, 3, 4, 5, 6] rfl)

set_option maxHeartbeats 4000000 in
set_option maxRecDepth 100000 in
theorem sg_5 {j : Nat} (C : lw_C p l s m meth c b L xs D ca hs ca2 gs cL oa) (V : lw_V s D ca hs ca2 gs cL oa H rt wd ob ln kd qt df cn w w2 th ov) (hv : iv_a ob ln kd wd (iv_c ob)) (hl : lv_has ls 7 (lw_lv b (hs 0) (gs 0) oa j)) (hj : 3 * j + 2 < L) (K : lw_K p l e s m below meth c b D ca hs ca2 gs cL oa j Q) : W p l e room_1 s m #[Value.ref b] below meth c H [] (20 + j) (5480 + 6 * j) Q (F0 m 416 ls []) := by
  have hx := C.1.1
  have hb := C.1.2.1
  have htr := C.2.1.1
  have hL := C.1.2.2.2.2.2.2.2.2.2
  obtain ⟨hG, hM, hP, hP2, hPo, hS⟩ := V
  obtain ⟨r, rt', wd', ob', ln', kd', qt', df', cn', hv', hGG, hMM⟩ := lq_collect l D ca hs ca2 gs rt wd ob ln kd qt df cn w w2 th hG hM hv
  refine lv_aload_n hx hb d_L_law_416 rfl (lv_at hl 1 rfl) ?_
  refine lw_gcall (n := 0) (y := y_G_collect) (As := []) (rest := []) C hG hM hP hP2 hPo hS hGG wm_94 wm_95 wm_96 wm_34 wm_97 ⟨rfl, by decide, by decide, by decide +kernel⟩ rfl ⟨rfl, rfl⟩ ⟨by decide, by decide⟩ ⟨by show 20 + j + 0 ≤ 601024; omega, by show 5480 + 6 * j + 0 ≤ 7293034; omega⟩ hl.1 rfl (Nat.le_of_ble_eq_true rfl) d_L_law_417 (fun v H w' hZ hP hP2 hPo hS => ?_)
  obtain ⟨rfl, hG'⟩ := hZ
  refine lv_aload_n hx hb d_L_law_420 rfl (lv_at hl 2 rfl) ?_
  refine lw_mcall (n := 0) (y := y_M_collect) (As := []) (rest := [.int r]) C hG' ⟨rt, wd, ob, ln, kd, qt, df, cn, th, hM⟩ hP hP2 hPo hS hMM wm_427 wm_428 wm_429 wm_36 wm_430 ⟨rfl, by decide, by decide, by decide +kernel⟩ rfl ⟨rfl, rfl⟩ ⟨by decide, by decide⟩ ⟨by show 20 + j + 0 ≤ 601024; omega, by show 5480 + 6 * j + 0 ≤ 7293034; omega⟩ hl.1 rfl (Nat.le_of_ble_eq_true rfl) d_L_law_421 (fun v H w2' hZ hP hP2 hPo hS => ?_)
  obtain ⟨rfl, hM'⟩ := hZ
  refine lv_icmp_eq (tgt := 580) hx hb d_L_law_424 (by decide) (fun _ => ?_) (fun h => absurd rfl h)
  refine W.widen (k := 21 + j) (n := 5486 + 6 * j) (by omega) (by omega) ?_
  exact K H rt' wd' ob' ln' kd' qt' df' cn' w' w2' 0 ov ls ⟨hG', hM', hP, hP2, hPo, hS⟩ hv' hl

set_option maxHeartbeats 4000000 in
set_option maxRecDepth 100000 in
theorem sg_6 {j : Nat} (C : lw_C p l s m meth c b L xs D ca hs ca2 gs cL oa) (V : lw_V s D ca hs ca2 gs cL oa H rt wd ob ln kd qt df cn w w2 th ov) (hv : iv_a ob ln kd wd (iv_c ob)) (hl : lv_has ls 7 (lw_lv b (hs 0) (gs 0) oa j)) (hj : 3 * j + 2 < L) (K : lw_K p l e s m below meth c b D ca hs ca2 gs cL oa j Q) : W p l e room_1 s m #[Value.ref b] below meth c H [] (20 + j) (5480 + 6 * j) Q (F0 m 429 ls []) := by
  have hx := C.1.1
  have hb := C.1.2.1
  have htr := C.2.1.1
  have hL := C.1.2.2.2.2.2.2.2.2.2
  obtain ⟨hG, hM, hP, hP2, hPo, hS⟩ := V
  obtain ⟨r, rt', wd', ob', ln', kd', qt', df', cn', hv', hGG, hMM⟩ := lq_base l D ca hs ca2 gs rt wd ob ln kd qt df cn w w2 th hG hM hv (xs (3 * j + 1))
  refine lv_aload_n hx hb d_L_law_429 rfl (lv_at hl 1 rfl) ?_
  refine sc_ld (j := j) (t := 1) (i1 := 1) C hS (lv_at hl 0 rfl) (lv_at hl 4 rfl) (by omega) ⟨rfl, rfl⟩ d_L_law_430 d_L_law_431 (fun R r k => lv_iconst (v := nI 1) hx hb d_L_law_433 (by decide +kernel) k) d_L_law_434 d_L_law_435 ?_
  refine lw_gcall (n := 1) (y := y_G_base) (As := [.int (xs (3 * j + 1))]) (rest := []) C hG hM hP hP2 hPo hS hGG wm_208 wm_209 wm_210 wm_34 wm_211 ⟨rfl, by decide, by decide, by decide +kernel⟩ rfl ⟨rfl, rfl⟩ ⟨by decide, by decide⟩ ⟨by show 20 + j + 0 ≤ 601024; omega, by show 5480 + 6 * j + 0 ≤ 7293034; omega⟩ hl.1 rfl (Nat.le_of_ble_eq_true rfl) d_L_law_436 (fun v H w' hZ hP hP2 hPo hS => ?_)
  obtain ⟨rfl, hG'⟩ := hZ
  refine lv_aload_n hx hb d_L_law_439 rfl (lv_at hl 2 rfl) ?_
  refine sc_ld (j := j) (t := 1) (i1 := 1) C hS (lv_at hl 0 rfl) (lv_at hl 4 rfl) (by omega) ⟨rfl, rfl⟩ d_L_law_440 d_L_law_441 (fun R r k => lv_iconst (v := nI 1) hx hb d_L_law_443 (by decide +kernel) k) d_L_law_444 d_L_law_445 ?_
  refine lw_mcall (n := 1) (y := y_M_base) (As := [.int (xs (3 * j + 1))]) (rest := [.int r]) C hG' ⟨rt, wd, ob, ln, kd, qt, df, cn, th, hM⟩ hP hP2 hPo hS hMM wm_450 wm_451 wm_452 wm_36 wm_453 ⟨rfl, by decide, by decide, by decide +kernel⟩ rfl ⟨rfl, rfl⟩ ⟨by decide, by decide⟩ ⟨by show 20 + j + 0 ≤ 601024; omega, by show 5480 + 6 * j + 0 ≤ 7293034; omega⟩ hl.1 rfl (Nat.le_of_ble_eq_true rfl) d_L_law_446 (fun v H w2' hZ hP hP2 hPo hS => ?_)
  obtain ⟨rfl, hM'⟩ := hZ
  refine lv_icmp_eq (tgt := 580) hx hb d_L_law_449 (by decide) (fun _ => ?_) (fun h => absurd rfl h)
  refine W.widen (k := 21 + j) (n := 5486 + 6 * j) (by omega) (by omega) ?_
  exact K H rt' wd' ob' ln' kd' qt' df' cn' w' w2' 0 ov ls ⟨hG', hM', hP, hP2, hPo, hS⟩ hv' hl

set_option maxHeartbeats 4000000 in
set_option maxRecDepth 100000 in
theorem sg_7 {j : Nat} (C : lw_C p l s m meth c b L xs D ca hs ca2 gs cL oa) (V : lw_V s D ca hs ca2 gs cL oa H rt wd ob ln kd qt df cn w w2 th ov) (hv : iv_a ob ln kd wd (iv_c ob)) (hl : lv_has ls 7 (lw_lv b (hs 0) (gs 0) oa j)) (hj : 3 * j + 2 < L) (K : lw_K p l e s m below meth c b D ca hs ca2 gs cL oa j Q) : W p l e room_1 s m #[Value.ref b] below meth c H [] (20 + j) (5480 + 6 * j) Q (F0 m 454 ls []) := by
  have hx := C.1.1
  have hb := C.1.2.1
  have htr := C.2.1.1
  have hL := C.1.2.2.2.2.2.2.2.2.2
  obtain ⟨hG, hM, hP, hP2, hPo, hS⟩ := V
  obtain ⟨r, rt', wd', ob', ln', kd', qt', df', cn', hv', hGG, hMM⟩ := lq_size l D ca hs ca2 gs rt wd ob ln kd qt df cn w w2 th hG hM hv (xs (3 * j + 1))
  refine lv_aload_n hx hb d_L_law_454 rfl (lv_at hl 1 rfl) ?_
  refine sc_ld (j := j) (t := 1) (i1 := 1) C hS (lv_at hl 0 rfl) (lv_at hl 4 rfl) (by omega) ⟨rfl, rfl⟩ d_L_law_455 d_L_law_456 (fun R r k => lv_iconst (v := nI 1) hx hb d_L_law_458 (by decide +kernel) k) d_L_law_459 d_L_law_460 ?_
  refine lw_gcall (n := 1) (y := y_G_size) (As := [.int (xs (3 * j + 1))]) (rest := []) C hG hM hP hP2 hPo hS hGG wm_212 wm_213 wm_214 wm_34 wm_215 ⟨rfl, by decide, by decide, by decide +kernel⟩ rfl ⟨rfl, rfl⟩ ⟨by decide, by decide⟩ ⟨by show 20 + j + 0 ≤ 601024; omega, by show 5480 + 6 * j + 0 ≤ 7293034; omega⟩ hl.1 rfl (Nat.le_of_ble_eq_true rfl) d_L_law_461 (fun v H w' hZ hP hP2 hPo hS => ?_)
  obtain ⟨rfl, hG'⟩ := hZ
  refine lv_aload_n hx hb d_L_law_464 rfl (lv_at hl 2 rfl) ?_
  refine sc_ld (j := j) (t := 1) (i1 := 1) C hS (lv_at hl 0 rfl) (lv_at hl 4 rfl) (by omega) ⟨rfl, rfl⟩ d_L_law_465 d_L_law_466 (fun R r k => lv_iconst (v := nI 1) hx hb d_L_law_468 (by decide +kernel) k) d_L_law_469 d_L_law_470 ?_
  refine lw_mcall (n := 1) (y := y_M_size) (As := [.int (xs (3 * j + 1))]) (rest := [.int r]) C hG' ⟨rt, wd, ob, ln, kd, qt, df, cn, th, hM⟩ hP hP2 hPo hS hMM wm_454 wm_455 wm_456 wm_36 wm_457 ⟨rfl, by decide, by decide, by decide +kernel⟩ rfl ⟨rfl, rfl⟩ ⟨by decide, by decide⟩ ⟨by show 20 + j + 0 ≤ 601024; omega, by show 5480 + 6 * j + 0 ≤ 7293034; omega⟩ hl.1 rfl (Nat.le_of_ble_eq_true rfl) d_L_law_471 (fun v H w2' hZ hP hP2 hPo hS => ?_)
  obtain ⟨rfl, hM'⟩ := hZ
  refine lv_icmp_eq (tgt := 580) hx hb d_L_law_474 (by decide) (fun _ => ?_) (fun h => absurd rfl h)
  refine W.widen (k := 21 + j) (n := 5486 + 6 * j) (by omega) (by omega) ?_
  exact K H rt' wd' ob' ln' kd' qt' df' cn' w' w2' 0 ov ls ⟨hG', hM', hP, hP2, hPo, hS⟩ hv' hl

set_option maxHeartbeats 4000000 in
set_option maxRecDepth 100000 in
theorem sg_8 {j : Nat} (C : lw_C p l s m meth c b L xs D ca hs ca2 gs cL oa) (V : lw_V s D ca hs ca2 gs cL oa H rt wd ob ln kd qt df cn w w2 th ov) (hv : iv_a ob ln kd wd (iv_c ob)) (hl : lv_has ls 7 (lw_lv b (hs 0) (gs 0) oa j)) (hj : 3 * j + 2 < L) (K : lw_K p l e s m below meth c b D ca hs ca2 gs cL oa j Q) : W p l e room_1 s m #[Value.ref b] below meth c H [] (20 + j) (5480 + 6 * j) Q (F0 m 479 ls []) := by
  have hx := C.1.1
  have hb := C.1.2.1
  have htr := C.2.1.1
  have hL := C.1.2.2.2.2.2.2.2.2.2
  obtain ⟨hG, hM, hP, hP2, hPo, hS⟩ := V
  obtain ⟨r, rt', wd', ob', ln', kd', qt', df', cn', hv', hGG, hMM⟩ := lq_silent l D ca hs ca2 gs rt wd ob ln kd qt df cn w w2 th hG hM hv (xs (3 * j + 1))
  refine lv_aload_n hx hb d_L_law_479 rfl (lv_at hl 1 rfl) ?_
  refine sc_ld (j := j) (t := 1) (i1 := 1) C hS (lv_at hl 0 rfl) (lv_at hl 4 rfl) (by omega) ⟨rfl, rfl⟩ d_L_law_480 d_L_law_481 (fun R r k => lv_iconst (v := nI 1) hx hb d_L_law_483 (by decide +kernel) k) d_L_law_484 d_L_law_485 ?_
  refine lw_gcall (n := 1) (y := y_G_silent) (As := [.int (xs (3 * j + 1))]) (rest := []) C hG hM hP hP2 hPo hS hGG wm_216 wm_217 wm_218 wm_34 wm_219 ⟨rfl, by decide, by decide, by decide +kernel⟩ rfl ⟨rfl, rfl⟩ ⟨by decide, by decide⟩ ⟨by show 20 + j + 0 ≤ 601024; omega, by show 5480 + 6 * j + 0 ≤ 7293034; omega⟩ hl.1 rfl (Nat.le_of_ble_eq_true rfl) d_L_law_486 (fun v H w' hZ hP hP2 hPo hS => ?_)
  obtain ⟨rfl, hG'⟩ := hZ
  refine lv_aload_n hx hb d_L_law_489 rfl (lv_at hl 2 rfl) ?_
  refine sc_ld (j := j) (t := 1) (i1 := 1) C hS (lv_at hl 0 rfl) (lv_at hl 4 rfl) (by omega) ⟨rfl, rfl⟩ d_L_law_490 d_L_law_491 (fun R r k => lv_iconst (v := nI 1) hx hb d_L_law_493 (by decide +kernel) k) d_L_law_494 d_L_law_495 ?_
  refine lw_mcall (n := 1) (y := y_M_silent) (As := [.int (xs (3 * j + 1))]) (rest := [.int r]) C hG' ⟨rt, wd, ob, ln, kd, qt, df, cn, th, hM⟩ hP hP2 hPo hS hMM wm_458 wm_459 wm_460 wm_36 wm_461 ⟨rfl, by decide, by decide, by decide +kernel⟩ rfl ⟨rfl, rfl⟩ ⟨by decide, by decide⟩ ⟨by show 20 + j + 0 ≤ 601024; omega, by show 5480 + 6 * j + 0 ≤ 7293034; omega⟩ hl.1 rfl (Nat.le_of_ble_eq_true rfl) d_L_law_496 (fun v H w2' hZ hP hP2 hPo hS => ?_)
  obtain ⟨rfl, hM'⟩ := hZ
  refine lv_icmp_eq (tgt := 580) hx hb d_L_law_499 (by decide) (fun _ => ?_) (fun h => absurd rfl h)
  refine W.widen (k := 21 + j) (n := 5486 + 6 * j) (by omega) (by omega) ?_
  exact K H rt' wd' ob' ln' kd' qt' df' cn' w' w2' 0 ov ls ⟨hG', hM', hP, hP2, hPo, hS⟩ hv' hl

set_option maxHeartbeats 4000000 in
set_option maxRecDepth 100000 in
theorem sg_9 {j : Nat} (C : lw_C p l s m meth c b L xs D ca hs ca2 gs cL oa) (V : lw_V s D ca hs ca2 gs cL oa H rt wd ob ln kd qt df cn w w2 th ov) (hv : iv_a ob ln kd wd (iv_c ob)) (hl : lv_has ls 7 (lw_lv b (hs 0) (gs 0) oa j)) (hj : 3 * j + 2 < L) (K : lw_K p l e s m below meth c b D ca hs ca2 gs cL oa j Q) : W p l e room_1 s m #[Value.ref b] below meth c H [] (20 + j) (5480 + 6 * j) Q (F0 m 504 ls []) := by
  have hx := C.1.1
  have hb := C.1.2.1
  have htr := C.2.1.1
  have hL := C.1.2.2.2.2.2.2.2.2.2
  obtain ⟨hG, hM, hP, hP2, hPo, hS⟩ := V
  obtain ⟨r, rt', wd', ob', ln', kd', qt', df', cn', hv', hGG, hMM⟩ := lq_block l D ca hs ca2 gs rt wd ob ln kd qt df cn w w2 th hG hM hv (xs (3 * j + 1))
  refine lv_aload_n hx hb d_L_law_504 rfl (lv_at hl 1 rfl) ?_
  refine sc_ld (j := j) (t := 1) (i1 := 1) C hS (lv_at hl 0 rfl) (lv_at hl 4 rfl) (by omega) ⟨rfl, rfl⟩ d_L_law_505 d_L_law_506 (fun R r k => lv_iconst (v := nI 1) hx hb d_L_law_508 (by decide +kernel) k) d_L_law_509 d_L_law_510 ?_
  refine lw_gcall (n := 1) (y := y_G_block) (As := [.int (xs (3 * j + 1))]) (rest := []) C hG hM hP hP2 hPo hS hGG wm_220 wm_221 wm_222 wm_34 wm_223 ⟨rfl, by decide, by decide, by decide +kernel⟩ rfl ⟨rfl, rfl⟩ ⟨by decide, by decide⟩ ⟨by show 20 + j + 0 ≤ 601024; omega, by show 5480 + 6 * j + 0 ≤ 7293034; omega⟩ hl.1 rfl (Nat.le_of_ble_eq_true rfl) d_L_law_511 (fun v H w' hZ hP hP2 hPo hS => ?_)
  obtain ⟨rfl, hG'⟩ := hZ
  refine lv_aload_n hx hb d_L_law_514 rfl (lv_at hl 2 rfl) ?_
  refine sc_ld (j := j) (t := 1) (i1 := 1) C hS (lv_at hl 0 rfl) (lv_at hl 4 rfl) (by omega) ⟨rfl, rfl⟩ d_L_law_515 d_L_law_516 (fun R r k => lv_iconst (v := nI 1) hx hb d_L_law_518 (by decide +kernel) k) d_L_law_519 d_L_law_520 ?_
  refine lw_mcall (n := 1) (y := y_M_block) (As := [.int (xs (3 * j + 1))]) (rest := [.int r]) C hG' ⟨rt, wd, ob, ln, kd, qt, df, cn, th, hM⟩ hP hP2 hPo hS hMM wm_462 wm_463 wm_464 wm_36 wm_465 ⟨rfl, by decide, by decide, by decide +kernel⟩ rfl ⟨rfl, rfl⟩ ⟨by decide, by decide⟩ ⟨by show 20 + j + 0 ≤ 601024; omega, by show 5480 + 6 * j + 0 ≤ 7293034; omega⟩ hl.1 rfl (Nat.le_of_ble_eq_true rfl) d_L_law_521 (fun v H w2' hZ hP hP2 hPo hS => ?_)
  obtain ⟨rfl, hM'⟩ := hZ
  refine lv_icmp_eq (tgt := 580) hx hb d_L_law_524 (by decide) (fun _ => ?_) (fun h => absurd rfl h)
  refine W.widen (k := 21 + j) (n := 5486 + 6 * j) (by omega) (by omega) ?_
  exact K H rt' wd' ob' ln' kd' qt' df' cn' w' w2' 0 ov ls ⟨hG', hM', hP, hP2, hPo, hS⟩ hv' hl

set_option maxHeartbeats 4000000 in
set_option maxRecDepth 100000 in
theorem sg_10 {j : Nat} (C : lw_C p l s m meth c b L xs D ca hs ca2 gs cL oa) (V : lw_V s D ca hs ca2 gs cL oa H rt wd ob ln kd qt df cn w w2 th ov) (hv : iv_a ob ln kd wd (iv_c ob)) (hl : lv_has ls 7 (lw_lv b (hs 0) (gs 0) oa j)) (hj : 3 * j + 2 < L) (K : lw_K p l e s m below meth c b D ca hs ca2 gs cL oa j Q) : W p l e room_1 s m #[Value.ref b] below meth c H [] (20 + j) (5480 + 6 * j) Q (F0 m 529 ls []) := by
  have hx := C.1.1
  have hb := C.1.2.1
  have htr := C.2.1.1
  have hL := C.1.2.2.2.2.2.2.2.2.2
  obtain ⟨hG, hM, hP, hP2, hPo, hS⟩ := V
  obtain ⟨r, rt', wd', ob', ln', kd', qt', df', cn', hv', hGG, hMM⟩ := lq_empty l D ca hs ca2 gs rt wd ob ln kd qt df cn w w2 th hG hM hv (xs (3 * j + 1))
  refine lv_aload_n hx hb d_L_law_529 rfl (lv_at hl 1 rfl) ?_
  refine sc_ld (j := j) (t := 1) (i1 := 1) C hS (lv_at hl 0 rfl) (lv_at hl 4 rfl) (by omega) ⟨rfl, rfl⟩ d_L_law_530 d_L_law_531 (fun R r k => lv_iconst (v := nI 1) hx hb d_L_law_533 (by decide +kernel) k) d_L_law_534 d_L_law_535 ?_
  refine lw_gcall (n := 1) (y := y_G_empty) (As := [.int (xs (3 * j + 1))]) (rest := []) C hG hM hP hP2 hPo hS hGG wm_227 wm_228 wm_229 wm_34 wm_230 ⟨rfl, by decide, by decide, by decide +kernel⟩ rfl ⟨rfl, rfl⟩ ⟨by decide, by decide⟩ ⟨by show 20 + j + 0 ≤ 601024; omega, by show 5480 + 6 * j + 0 ≤ 7293034; omega⟩ hl.1 rfl (Nat.le_of_ble_eq_true rfl) d_L_law_536 (fun v H w' hZ hP hP2 hPo hS => ?_)
  obtain ⟨rfl, hG'⟩ := hZ
  refine lv_aload_n hx hb d_L_law_539 rfl (lv_at hl 2 rfl) ?_
  refine sc_ld (j := j) (t := 1) (i1 := 1) C hS (lv_at hl 0 rfl) (lv_at hl 4 rfl) (by omega) ⟨rfl, rfl⟩ d_L_law_540 d_L_law_541 (fun R r k => lv_iconst (v := nI 1) hx hb d_L_law_543 (by decide +kernel) k) d_L_law_544 d_L_law_545 ?_
  refine lw_mcall (n := 1) (y := y_M_empty) (As := [.int (xs (3 * j + 1))]) (rest := [.int r]) C hG' ⟨rt, wd, ob, ln, kd, qt, df, cn, th, hM⟩ hP hP2 hPo hS hMM wm_466 wm_467 wm_468 wm_36 wm_469 ⟨rfl, by decide, by decide, by decide +kernel⟩ rfl ⟨rfl, rfl⟩ ⟨by decide, by decide⟩ ⟨by show 20 + j + 0 ≤ 601024; omega, by show 5480 + 6 * j + 0 ≤ 7293034; omega⟩ hl.1 rfl (Nat.le_of_ble_eq_true rfl) d_L_law_546 (fun v H w2' hZ hP hP2 hPo hS => ?_)
  obtain ⟨rfl, hM'⟩ := hZ
  refine lv_icmp_eq (tgt := 580) hx hb d_L_law_549 (by decide) (fun _ => ?_) (fun h => absurd rfl h)
  refine W.widen (k := 21 + j) (n := 5486 + 6 * j) (by omega) (by omega) ?_
  exact K H rt' wd' ob' ln' kd' qt' df' cn' w' w2' 0 ov ls ⟨hG', hM', hP, hP2, hPo, hS⟩ hv' hl

set_option maxHeartbeats 4000000 in
set_option maxRecDepth 100000 in
theorem sg_11 {j : Nat} (C : lw_C p l s m meth c b L xs D ca hs ca2 gs cL oa) (V : lw_V s D ca hs ca2 gs cL oa H rt wd ob ln kd qt df cn w w2 th ov) (hv : iv_a ob ln kd wd (iv_c ob)) (hl : lv_has ls 7 (lw_lv b (hs 0) (gs 0) oa j)) (hj : 3 * j + 2 < L) (K : lw_K p l e s m below meth c b D ca hs ca2 gs cL oa j Q) : W p l e room_1 s m #[Value.ref b] below meth c H [] (20 + j) (5480 + 6 * j) Q (F0 m 554 ls []) := by
  have hx := C.1.1
  have hb := C.1.2.1
  have htr := C.2.1.1
  have hL := C.1.2.2.2.2.2.2.2.2.2
  obtain ⟨hG, hM, hP, hP2, hPo, hS⟩ := V
  obtain ⟨r, rt', wd', ob', ln', kd', qt', df', cn', hv', hGG, hMM⟩ := lq_objects l D ca hs ca2 gs rt wd ob ln kd qt df cn w w2 th hG hM hv
  refine lv_aload_n hx hb d_L_law_554 rfl (lv_at hl 1 rfl) ?_
  refine lw_gcall (n := 0) (y := y_G_objects) (As := []) (rest := []) C hG hM hP hP2 hPo hS hGG wm_234 wm_235 wm_236 wm_34 wm_237 ⟨rfl, by decide, by decide, by decide +kernel⟩ rfl ⟨rfl, rfl⟩ ⟨by decide, by decide⟩ ⟨by show 20 + j + 0 ≤ 601024; omega, by show 5480 + 6 * j + 0 ≤ 7293034; omega⟩ hl.1 rfl (Nat.le_of_ble_eq_true rfl) d_L_law_555 (fun v H w' hZ hP hP2 hPo hS => ?_)
  obtain ⟨rfl, hG'⟩ := hZ
  refine lv_aload_n hx hb d_L_law_558 rfl (lv_at hl 2 rfl) ?_
  refine lw_mcall (n := 0) (y := y_M_objects) (As := []) (rest := [.int r]) C hG' ⟨rt, wd, ob, ln, kd, qt, df, cn, th, hM⟩ hP hP2 hPo hS hMM wm_470 wm_471 wm_472 wm_36 wm_473 ⟨rfl, by decide, by decide, by decide +kernel⟩ rfl ⟨rfl, rfl⟩ ⟨by decide, by decide⟩ ⟨by show 20 + j + 0 ≤ 601024; omega, by show 5480 + 6 * j + 0 ≤ 7293034; omega⟩ hl.1 rfl (Nat.le_of_ble_eq_true rfl) d_L_law_559 (fun v H w2' hZ hP hP2 hPo hS => ?_)
  obtain ⟨rfl, hM'⟩ := hZ
  refine lv_icmp_eq (tgt := 580) hx hb d_L_law_562 (by decide) (fun _ => ?_) (fun h => absurd rfl h)
  refine W.widen (k := 21 + j) (n := 5486 + 6 * j) (by omega) (by omega) ?_
  exact K H rt' wd' ob' ln' kd' qt' df' cn' w' w2' 0 ov ls ⟨hG', hM', hP, hP2, hPo, hS⟩ hv' hl

set_option maxHeartbeats 4000000 in
set_option maxRecDepth 100000 in
theorem sg_12 {j : Nat} (C : lw_C p l s m meth c b L xs D ca hs ca2 gs cL oa) (V : lw_V s D ca hs ca2 gs cL oa H rt wd ob ln kd qt df cn w w2 th ov) (hv : iv_a ob ln kd wd (iv_c ob)) (hl : lv_has ls 7 (lw_lv b (hs 0) (gs 0) oa j)) (hj : 3 * j + 2 < L) (K : lw_K p l e s m below meth c b D ca hs ca2 gs cL oa j Q) : W p l e room_1 s m #[Value.ref b] below meth c H [] (20 + j) (5480 + 6 * j) Q (F0 m 567 ls []) := by
  have hx := C.1.1
  have hb := C.1.2.1
  have htr := C.2.1.1
  have hL := C.1.2.2.2.2.2.2.2.2.2
  obtain ⟨hG, hM, hP, hP2, hPo, hS⟩ := V
  obtain ⟨r, rt', wd', ob', ln', kd', qt', df', cn', hv', hGG, hMM⟩ := lq_collections l D ca hs ca2 gs rt wd ob ln kd qt df cn w w2 th hG hM hv
  refine lv_aload_n hx hb d_L_law_567 rfl (lv_at hl 1 rfl) ?_
  refine lw_gcall (n := 0) (y := y_G_collections) (As := []) (rest := []) C hG hM hP hP2 hPo hS hGG wm_238 wm_239 wm_240 wm_34 wm_241 ⟨rfl, by decide, by decide, by decide +kernel⟩ rfl ⟨rfl, rfl⟩ ⟨by decide, by decide⟩ ⟨by show 20 + j + 0 ≤ 601024; omega, by show 5480 + 6 * j + 0 ≤ 7293034; omega⟩ hl.1 rfl (Nat.le_of_ble_eq_true rfl) d_L_law_568 (fun v H w' hZ hP hP2 hPo hS => ?_)
  obtain ⟨rfl, hG'⟩ := hZ
  refine lv_aload_n hx hb d_L_law_571 rfl (lv_at hl 2 rfl) ?_
  refine lw_mcall (n := 0) (y := y_M_collections) (As := []) (rest := [.int r]) C hG' ⟨rt, wd, ob, ln, kd, qt, df, cn, th, hM⟩ hP hP2 hPo hS hMM wm_474 wm_475 wm_476 wm_36 wm_477 ⟨rfl, by decide, by decide, by decide +kernel⟩ rfl ⟨rfl, rfl⟩ ⟨by decide, by decide⟩ ⟨by show 20 + j + 0 ≤ 601024; omega, by show 5480 + 6 * j + 0 ≤ 7293034; omega⟩ hl.1 rfl (Nat.le_of_ble_eq_true rfl) d_L_law_572 (fun v H w2' hZ hP hP2 hPo hS => ?_)
  obtain ⟨rfl, hM'⟩ := hZ
  refine lv_icmp_eq (tgt := 580) hx hb d_L_law_575 (by decide) (fun _ => ?_) (fun h => absurd rfl h)
  refine W.widen (k := 21 + j) (n := 5486 + 6 * j) (by omega) (by omega) ?_
  exact K H rt' wd' ob' ln' kd' qt' df' cn' w' w2' 0 ov ls ⟨hG', hM', hP, hP2, hPo, hS⟩ hv' hl

end SH
