set_option maxHeartbeats 4000000 in
set_option maxRecDepth 100000 in
theorem whole_start {p : Program} {e : Env} {s : State} {m : MethodId} {below : List Frame} {meth : Method} {c : Code} (l : Launch) (htr : gt_htr l) {b L : Nat} {xs : Nat → Int32} (hL : L ≤ 1536) (C0 : lw_At p s m meth c b L xs) : W p l e room_1 s m #[Value.ref b] below meth c s.heap [] 0 0 (lw_Z below #[Value.ref b] s) (entryFrame m ([Value.ref b] : List Value).toArray 7) := by
  obtain ⟨hx, hb, hrt, hml, hown, hts, hX, hbl, hlk, hgv⟩ := C0
  have hown : s.vm.findClass R_L = some m.cls := hown
  have ht : ∀ w ∈ wa_all, w.before #[Value.ref b] s = true := fun w h => hts w (wa_tbl w h)
  have hT := xs_Tof hts hgv
  have hN := hq_Nof hgv
  obtain ⟨cG, iG, hKnG⟩ := u_known (n := 12) ht in_G (ht _ wm_45)
  obtain ⟨cM, iM, hKnM⟩ := u_known (n := 11) ht in_M (ht _ wm_341)
  have hK := lw_DK hKnG hKnM
  generalize lw_D cG cM iG iM = D at hK
  have hA : ∀ q, s.heap.size ≤ q → lw_A s q := fun q h => h
  have hS : va_S (lw_A s) s.heap s.heap [] := va_S.rf
  have hP : va_P D cl_all [] s.heap := fun k q h => by cases h
  have hD : va_D (lw_A s) [] := ⟨(fun i j x y h => by cases h), (fun k q h => by cases h)⟩
  have hl := lv_entry ([.ref b]) (n := 7) (Nat.le_of_ble_eq_true rfl)
  rw [lg_entry_eq]
  generalize (lg_sl ([.ref b]) ++ List.replicate (7 - (lg_sl ([.ref b])).length) Slot.unset).toArray = ls at hl ⊢
  have hl : lv_has ls 7 [(0, .ref b)] := hl
  refine va_new (ci := 0) (fs := [.null, .null, .null, .null, .null, .null, .null, .null, .null, .int (nI 0), .int (nI 0), .int (nI 0)]) (C := R_G) (T := F_G) (N := 12) hx hb ht in_G t_G t_G_ok hown (ht _ wm_44) (ht _ wm_45) (ht _ wm_34) hK hP hD hS hA rfl (fun j hj => by rcases (show j = 0 ∨ j = 1 ∨ j = 2 ∨ j = 3 ∨ j = 4 ∨ j = 5 ∨ j = 6 ∨ j = 7 ∨ j = 8 ∨ j = 9 ∨ j = 10 ∨ j = 11 by omega) with rfl | rfl | rfl | rfl | rfl | rfl | rfl | rfl | rfl | rfl | rfl | rfl <;> rfl) (by decide) (by decide) d_L_law_0 (fun h0 H hP hD hS => ?_)
  have hP : va_P D cl_all [(h0, .inr (0, [.null, .null, .null, .null, .null, .null, .null, .null, .null, .int (nI 0), .int (nI 0), .int (nI 0)]))] H := hP
  have hD : va_D (lw_A s) [(h0, .inr (0, [.null, .null, .null, .null, .null, .null, .null, .null, .null, .int (nI 0), .int (nI 0), .int (nI 0)]))] := hD
  refine lv_dup hx hb d_L_law_3 rfl ?_
  have hFc := va_free (wc := [(h0, .inr (0, [.null, .null, .null, .null, .null, .null, .null, .null, .null, .int (nI 0), .int (nI 0), .int (nI 0)]))]) hD hS hA [0] rfl
  refine va_callv (va_runI (As := []) (rest := [.ref h0]) ⟨hx, hb, hml, hown, ht⟩ (c_G_init l D h0 H.size) (cwI 0 ht (wg_cons hg_all wm_48 hg_all) rfl rfl rfl (ht _ wm_34) (ht _ wm_46) (ht _ wm_47) rfl ⟨by decide, by decide, by decide +kernel⟩ ⟨by decide, by decide⟩) ⟨fun a U g mk q => by obtain ⟨q0, q1, qP, qK, qD⟩ := q; exact ⟨q0, q1, qP, va_K.moved (u := U) (U := U.calling g mk a) (Vm.Alike.refl U.vm) qK, qD⟩, fun U hU hW => ⟨rfl, by rw [hU], by rw [hU]; exact hP, va_K.moved hW.alike hK, hD.weaken (fun _ _ _ _ => trivial)⟩⟩ rfl rfl hl.1 rfl (lv_room (Nat.le_of_ble_eq_true rfl)) d_L_law_4 ⟨by decide, by decide⟩) hS (fun q _ h => hFc q h) hFc (fun u t H1 locs ht0 hvm hu hB hz1 hk1 hS => ?_)
  obtain ⟨ca, hs⟩ := u
  have hu : hs 0 = h0 := hu
  obtain ⟨hPG9, hKG9, hDG9⟩ := hB
  rw [ht0] at hPG9
  have hKG9 := va_K.moved hvm.symm hKG9
  have hPG : va_P D cl_all (gw_G ca hs in_0 in_0 ob_0 ob_0 ob_0 bo_0 bo_0 bo_0 ob_0 0 0 0) H1 := hPG9
  have hKG : va_K D cl_all (ty_G ca) s := hKG9
  have hDG : va_D (lw_A s) (gw_G ca hs in_0 in_0 ob_0 ob_0 ob_0 bo_0 bo_0 bo_0 ob_0 0 0 0) := hDG9.weaken (fun k q _ h => hFc q.1 h)
  subst hu
  clear hP hD hk1 hz1 hFc
  refine va_forget hS.2.2 ?_
  have hS : va_S (lw_A s) s.heap H1 [] := ⟨hS.1, hS.2.1, fun q hq => by cases hq⟩
  refine W.widen (k := 10) (n := 2868) (by decide) (by decide) ?_
  refine lv_astore_n (lv' := [(1, .ref (hs 0)), (0, .ref b)]) hx hb d_L_law_7 rfl hl (by decide) rfl (fun ls hl => ?_)
  refine va_new (ci := 1) (fs := [.int (nI 0), .null, .null, .null, .null, .null, .null, .null, .null, .int (nI 0), .int (nI 0)]) (C := R_M) (T := F_M) (N := 11) hx hb ht in_M t_M t_M_ok hown (ht _ wm_340) (ht _ wm_341) (ht _ wm_36) hK hPG hDG hS hA rfl (fun j hj => by rcases (show j = 0 ∨ j = 1 ∨ j = 2 ∨ j = 3 ∨ j = 4 ∨ j = 5 ∨ j = 6 ∨ j = 7 ∨ j = 8 ∨ j = 9 ∨ j = 10 by omega) with rfl | rfl | rfl | rfl | rfl | rfl | rfl | rfl | rfl | rfl | rfl <;> rfl) (by decide) (by decide) d_L_law_8 (fun g0 H hPB hDB hS => ?_)
  have hPG : va_P D cl_all (gw_G ca hs in_0 in_0 ob_0 ob_0 ob_0 bo_0 bo_0 bo_0 ob_0 0 0 0) H := va_Pl hPB
  have hPM : va_P D cl_all [(g0, .inr (1, [.int (nI 0), .null, .null, .null, .null, .null, .null, .null, .null, .int (nI 0), .int (nI 0)]))] H := va_Pr hPB
  have hg0 : ∀ k, k < 10 → hs k ≠ g0 := fun k hk e => by
    obtain ⟨ee, he⟩ := adr_at (n := 10) (gw_G_adr (ca := ca) (hs := hs) (rt := in_0) (wd := in_0) (ob := ob_0) (ln := ob_0) (kd := ob_0) (qt := bo_0) (df := bo_0) (mk := bo_0) (fd := ob_0) (fc := 0) (oc := 0) (cn := 0)) hk
    have h1 := hDB.1 k 10 (hs k, ee) (g0, .inr (1, [.int (nI 0), .null, .null, .null, .null, .null, .null, .null, .null, .int (nI 0), .int (nI 0)])) (by rw [List.getElem?_append_left (List.getElem?_eq_some_iff.mp he).1]; exact he) rfl e
    omega
  have hDM : va_D (lw_A s) [(g0, .inr (1, [.int (nI 0), .null, .null, .null, .null, .null, .null, .null, .null, .int (nI 0), .int (nI 0)]))] := ⟨fun i j x y hi hj _ => by
    have := (List.getElem?_eq_some_iff.mp hi).1
    have := (List.getElem?_eq_some_iff.mp hj).1
    simp at *
    omega, fun k q hk => hDB.2 (10 + k) q (by rw [List.getElem?_append_right (show 10 ≤ 10 + k by omega)]; rw [show 10 + k - (gw_G ca hs in_0 in_0 ob_0 ob_0 ob_0 bo_0 bo_0 bo_0 ob_0 0 0 0).length = k by show 10 + k - 10 = k; omega]; exact hk)⟩
  refine lv_dup hx hb d_L_law_11 rfl ?_
  have hFc := va_free (wc := [(g0, .inr (1, [.int (nI 0), .null, .null, .null, .null, .null, .null, .null, .null, .int (nI 0), .int (nI 0)]))]) hDM hS hA [0] rfl
  refine W.widen (k := 11) (n := 2879) (by decide) (by decide) ?_
  refine va_callv (va_runI (As := []) (rest := [.ref g0]) ⟨hx, hb, hml, hown, ht⟩ (c_M_init l D g0 H.size) (cwI 0 ht (wg_cons hg_all wm_344 hg_all) rfl rfl rfl (ht _ wm_36) (ht _ wm_342) (ht _ wm_343) rfl ⟨by decide, by decide, by decide +kernel⟩ ⟨by decide, by decide⟩) ⟨fun a U g mk q => by obtain ⟨q0, q1, qP, qK, qD⟩ := q; exact ⟨q0, q1, qP, va_K.moved (u := U) (U := U.calling g mk a) (Vm.Alike.refl U.vm) qK, qD⟩, fun U hU hW => ⟨rfl, by rw [hU], by rw [hU]; exact hPM, va_K.moved hW.alike hK, hDM.weaken (fun _ _ _ _ => trivial)⟩⟩ rfl rfl hl.1 rfl (lv_room (Nat.le_of_ble_eq_true rfl)) d_L_law_12 ⟨by decide, by decide⟩) hS (fun q _ h => hFc q h) hFc (fun u t H1 locs ht0 hvm hu hB hz1 hk1 hS => ?_)
  obtain ⟨ca2, gs⟩ := u
  have hu : gs 0 = g0 := hu
  obtain ⟨hPM1, hKM, hDM1⟩ := hB
  rw [ht0] at hPM1
  have hKM := va_K.moved hvm.symm hKM
  have hPM1 : va_P D cl_all (gw_M ca2 gs in_0 in_0 ob_0 ob_0 ob_0 bo_0 bo_0 bo_0 0 0 0) H1 := hPM1
  have hKM : va_K D cl_all (ty_M ca2) s := hKM
  have hnA : ∀ k, k < 10 → ¬ va_A [(g0, (.inr (1, [.int (nI 0), .null, .null, .null, .null, .null, .null, .null, .null, .int (nI 0), .int (nI 0)]) : va_E))] H.size (hs k) := fun k hk h => by
    rcases h with ⟨k2, e2, h2⟩ | h
    · have hz : k2 < 1 := (List.getElem?_eq_some_iff.mp h2).1
      rw [show k2 = 0 by omega] at h2
      cases h2
      exact hg0 k hk rfl
    · obtain ⟨ee, he⟩ := adr_at (n := 10) (gw_G_adr (ca := ca) (hs := hs) (rt := in_0) (wd := in_0) (ob := ob_0) (ln := ob_0) (kd := ob_0) (qt := bo_0) (df := bo_0) (mk := bo_0) (fd := ob_0) (fc := 0) (oc := 0) (cn := 0)) hk
      have := va_lt hPG k _ he
      exact absurd h (Nat.not_le.mpr this)
  have hgA : ∀ k, k < 9 → va_A [(g0, (.inr (1, [.int (nI 0), .null, .null, .null, .null, .null, .null, .null, .null, .int (nI 0), .int (nI 0)]) : va_E))] H.size (gs k) := fun k hk => by
    obtain ⟨ee, he⟩ := adr_at (n := 9) (gw_M_adr (ca := ca2) (hs := gs) (rt := in_0) (wd := in_0) (ob := ob_0) (ln := ob_0) (kd := ob_0) (qt := bo_0) (df := bo_0) (mk := bo_0) (th := 0) (cn := 0) (gv := 0)) hk
    exact hDM1.2 k _ he
  have hPG1 : va_P D cl_all (gw_G ca hs in_0 in_0 ob_0 ob_0 ob_0 bo_0 bo_0 bo_0 ob_0 0 0 0) H1 := hPG.kept (fun k q hk => hk1 _ (va_lt hPG k q hk) (fun h => by
    obtain ⟨j, hj, ej⟩ := gw_G_in k q hk
    rw [ej] at h
    exact hnA j hj h))
  have hginj : ∀ i, i < 9 → ∀ j, j < 9 → gs i = gs j → i = j := fun i hi j hj e => by
    obtain ⟨e1, h1⟩ := adr_at (n := 9) (gw_M_adr (ca := ca2) (hs := gs) (rt := in_0) (wd := in_0) (ob := ob_0) (ln := ob_0) (kd := ob_0) (qt := bo_0) (df := bo_0) (mk := bo_0) (th := 0) (cn := 0) (gv := 0)) hi
    obtain ⟨e2, h2⟩ := adr_at (n := 9) (gw_M_adr (ca := ca2) (hs := gs) (rt := in_0) (wd := in_0) (ob := ob_0) (ln := ob_0) (kd := ob_0) (qt := bo_0) (df := bo_0) (mk := bo_0) (th := 0) (cn := 0) (gv := 0)) hj
    exact hDM1.1 i j _ _ h1 h2 e
  have hhinj : ∀ i, i < 10 → ∀ j, j < 10 → hs i = hs j → i = j := fun i hi j hj e => by
    obtain ⟨e1, h1⟩ := adr_at (n := 10) (gw_G_adr (ca := ca) (hs := hs) (rt := in_0) (wd := in_0) (ob := ob_0) (ln := ob_0) (kd := ob_0) (qt := bo_0) (df := bo_0) (mk := bo_0) (fd := ob_0) (fc := 0) (oc := 0) (cn := 0)) hi
    obtain ⟨e2, h2⟩ := adr_at (n := 10) (gw_G_adr (ca := ca) (hs := hs) (rt := in_0) (wd := in_0) (ob := ob_0) (ln := ob_0) (kd := ob_0) (qt := bo_0) (df := bo_0) (mk := bo_0) (fd := ob_0) (fc := 0) (oc := 0) (cn := 0)) hj
    exact hDG.1 i j _ _ h1 h2 e
  have hhs : ∀ k, k < 10 → s.heap.size ≤ hs k := fun k hk => by
    obtain ⟨e1, h1⟩ := adr_at (n := 10) (gw_G_adr (ca := ca) (hs := hs) (rt := in_0) (wd := in_0) (ob := ob_0) (ln := ob_0) (kd := ob_0) (qt := bo_0) (df := bo_0) (mk := bo_0) (fd := ob_0) (fc := 0) (oc := 0) (cn := 0)) hk
    exact hDG.2 k _ h1
  have hgs : ∀ k, k < 9 → s.heap.size ≤ gs k := fun k hk => hFc _ (hgA k hk)
  have hne : ∀ i, i < 10 → ∀ j, j < 9 → hs i ≠ gs j := fun i hi j hj e => hnA i hi (by rw [e]; exact hgA j hj)
  subst hu
  refine va_forget hS.2.2 ?_
  have hS : va_S (lw_A s) s.heap H1 [] := ⟨hS.1, hS.2.1, fun q hq => by cases hq⟩
  refine W.widen (k := 19) (n := 5479) (by decide) (by decide) ?_
  refine lv_astore_n (lv' := [(2, .ref (gs 0)), (1, .ref (hs 0)), (0, .ref b)]) hx hb d_L_law_15 rfl hl (by decide) rfl (fun ls hl => ?_)
  refine lv_iconst (v := nI 1) hx hb d_L_law_16 (by decide +kernel) ?_
  refine va_newaK (atype := .long) (n := nI 1) (N := 1) hx hb (ht _ wm_478) rfl d_L_law_17 rfl (by decide) (by decide) (by decide) (by decide) (by decide) rfl (fun H2 cL e1 z1 o1 hAr hNm => ?_)
  refine W.eq (g2 := F0 m 19 ls [.ref H1.size]) rfl ?_
  have hPG2 : va_P D cl_all (gw_G ca hs in_0 in_0 ob_0 ob_0 ob_0 bo_0 bo_0 bo_0 ob_0 0 0 0) H2 := hPG1.kept (fun k q hk => o1 _ (va_lt hPG1 k q hk))
  have hPM2 : va_P D cl_all (gw_M ca2 gs in_0 in_0 ob_0 ob_0 ob_0 bo_0 bo_0 bo_0 0 0 0) H2 := hPM1.kept (fun k q hk => o1 _ (va_lt hPM1 k q hk))
  have hPo : va_P D cl_all (hq_o H1.size cL (fun _ => 0)) H2 := fun k q hk => by
    have hz : k < 1 := (List.getElem?_eq_some_iff.mp hk).1
    rw [show k = 0 by omega] at hk
    cases hk
    show H2[H1.size]? = some (vp_cell _ _)
    rw [vp_cell_l]
    exact e1
  have hKo : va_K D cl_all [(cL, .long)] s := ⟨hK.1, fun k q hk => by
    have hz : k < 1 := (List.getElem?_eq_some_iff.mp hk).1
    rw [show k = 0 by omega] at hk
    cases hk
    exact ⟨hAr, hNm⟩⟩
  have hS2 : va_S (lw_A s) s.heap H2 [] := ⟨Nat.le_trans hS.1 (by omega), fun q q1 q2 => by rw [o1 q (Nat.lt_of_lt_of_le q1 hS.1)]; exact hS.2.1 q q1 q2, fun q hq => by cases hq⟩
  have hlh : ∀ k, k < 10 → hs k ≠ H1.size := fun k hk e => by
    obtain ⟨ee, he⟩ := adr_at (n := 10) (gw_G_adr (ca := ca) (hs := hs) (rt := in_0) (wd := in_0) (ob := ob_0) (ln := ob_0) (kd := ob_0) (qt := bo_0) (df := bo_0) (mk := bo_0) (fd := ob_0) (fc := 0) (oc := 0) (cn := 0)) hk
    have h1 : hs k < H1.size := va_lt hPG1 k _ he
    omega
  have hlg : ∀ k, k < 9 → gs k ≠ H1.size := fun k hk e => by
    obtain ⟨ee, he⟩ := adr_at (n := 9) (gw_M_adr (ca := ca2) (hs := gs) (rt := in_0) (wd := in_0) (ob := ob_0) (ln := ob_0) (kd := ob_0) (qt := bo_0) (df := bo_0) (mk := bo_0) (th := 0) (cn := 0) (gv := 0)) hk
    have h1 : gs k < H1.size := va_lt hPM1 k _ he
    omega
  refine W.widen (k := 20) (n := 5480) (by decide) (by decide) ?_
  refine lv_astore_n (lv' := [(3, .ref H1.size), (2, .ref (gs 0)), (1, .ref (hs 0)), (0, .ref b)]) hx hb d_L_law_19 rfl hl (by decide) rfl (fun ls hl => ?_)
  refine lv_iconst (v := nI (3 * 0)) hx hb d_L_law_20 (by decide +kernel) ?_
  refine lv_istore (lv' := [(4, .int (nI (3 * 0))), (3, .ref H1.size), (2, .ref (gs 0)), (1, .ref (hs 0)), (0, .ref b)]) hx hb d_L_law_21 hl (by decide) rfl (fun ls hl => ?_)
  have C : lw_C p l s m meth c b L xs D ca hs ca2 gs cL H1.size := ⟨⟨hx, hb, hrt, hml, hown, ht, hX, hbl, hlk, hL⟩, ⟨htr, hT, hN⟩, ⟨hKG, hKM, hKo⟩, ⟨hhs, hgs, hS.1, hne, hlh, hlg, hhinj, hginj⟩⟩
  have hc0 : 0 = iv_c ob_0 := iv_0.2.2.2.2.2
  refine lw_loop C (L - 3 * 0) 0 rfl (Nat.zero_le _) H2 in_0 in_0 ob_0 ob_0 ob_0 bo_0 bo_0 0 (gw_G ca hs in_0 in_0 ob_0 ob_0 ob_0 bo_0 bo_0 bo_0 ob_0 0 0 0) (gw_M ca2 gs in_0 in_0 ob_0 ob_0 ob_0 bo_0 bo_0 bo_0 0 0 0) 0 (fun _ => 0) ls ⟨⟨bo_0, ob_0, 0, by rw [← hc0]⟩, ⟨bo_0, 0, rfl⟩, hPG2, hPM2, hPo, hS2⟩ (by rw [← hc0]; exact iv_0) (lv_sub hl [4, 3, 2, 1, 0] rfl)
