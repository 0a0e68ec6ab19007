/-! the class: placing objects, forgetting marks, marking -/
set_option maxHeartbeats 4000000 in
set_option maxRecDepth 100000 in
theorem c_G_placeObject (l : Launch) (D : va_G) (ca : Nat → ClassId) (hs : Nat → Nat) (rt : Nat → Int32) (wd : Nat → Int32) (ob : Nat → Nat) (ln : Nat → Nat) (kd : Nat → Nat) (qt : Nat → Bool) (df : Nat → Bool) (mk : Nat → Bool) (fd : Nat → Nat) (fc : Nat) (oc : Nat) (cn : Nat) (a0 lz : Nat) (sl : Bool) (hlz : 1 ≤ lz) (hal : a0 + lz ≤ 512) : Met l y_G_placeObject (Cond.code y_G_placeObject b_G_placeObject 4 none :: wa_all) (rm_d 2) (va_Pc [.ref (hs 0), .int (nI a0), .int (nI lz), .int (zb_e sl)] (gx_I D cl_all (ty_G ca) (gw_G ca hs rt wd ob ln kd qt df mk fd fc oc cn))) (gx_Q D cl_all (gx_A hs 10) (gw_G ca hs rt wd ob ln kd qt df mk fd fc oc cn) (fun v w' => v = none ∧ w' = gw_G ca hs rt wd (st_ob ob a0 lz) (va_up ln a0 lz) kd (va_up qt a0 sl) df mk fd fc (oc + 1) cn)) 0 0 (gx_A hs 10) := by
  refine gx_mutV (by decide) (Nat.le_of_ble_eq_true rfl) gw_G_in ?_
  intro p e s m args below meth c ls Q hx hb hml ht hown hret hP hK hD hS hl
  have hl : lv_has ls 4 [(0, .ref (hs 0)), (1, .int (nI a0)), (2, .int (nI lz)), (3, .int (zb_e sl))] := hl
  have hown : s.vm.findClass R_G = some m.cls := hown
  have hP : va_P D cl_all (gw_G ca hs rt wd ob ln kd qt df mk fd fc oc cn) s.heap := hP
  refine lv_aload_n hx hb d_G_placeObject_0 rfl (lv_at hl 0 rfl) ?_
  refine va_get (D := D) (ci := 0) (v := .ref (hs 5)) (C := R_G) (T := F_G) (N := 12) hx hb ht in_G hown hK hP 0 rfl rfl 4 (by decide) (ht _ wm_59) (fun _ h9 => h9) rfl d_G_placeObject_1 ?_
  refine lv_iload_n hx hb d_G_placeObject_4 rfl (lv_at hl 1 rfl) ?_
  refine lv_iload_n hx hb d_G_placeObject_5 rfl (lv_at hl 1 rfl) ?_
  refine lv_iload_n hx hb d_G_placeObject_6 rfl (lv_at hl 2 rfl) ?_
  refine nx_iadd hx hb d_G_placeObject_7 ?_
  refine lv_iload_n hx hb d_G_placeObject_8 rfl (lv_at hl 1 rfl) ?_
  refine gx_cF (n := 4) (q0 := 5) (As := [.ref (hs 5), .int (nI a0), .int (nI (a0 + lz)), .int (nI a0)]) (rest := []) ⟨hx, hb, hml, hown, ht⟩ hg_all (c_A_fill3 l D (hs 5) 512 (ca 5) (fun j => zs_e ((ob) j)) (fun j => zs_e ((st_ob ob a0 lz) j)) (a0) (a0 + lz) (nI a0) (by omega) (by omega) (by omega) (fun j hj => by
      show zs_e (st_ob ob a0 lz j) = _
      unfold st_ob
      by_cases q : a0 ≤ j ∧ j < a0 + lz
      · rw [if_pos q, if_pos q]
        exact zs_s a0
      · rw [if_neg q, if_neg q])) wm_131 wm_132 wm_35 wm_133 ⟨by decide, by decide, by decide +kernel⟩ rfl ⟨rfl, rfl⟩ ⟨by decide, by decide⟩ ⟨by decide, by decide⟩ hK hP hD hS rfl 4 rfl hl.1 rfl (Nat.le_of_ble_eq_true rfl) d_G_placeObject_9 (fun H locs hP hD hS => ?_)
  have hP : va_P D cl_all (gw_G ca hs rt wd (st_ob ob a0 lz) ln kd qt df mk fd fc oc cn) H := hP
  have hD : va_D (gx_A hs 10) (gw_G ca hs rt wd (st_ob ob a0 lz) ln kd qt df mk fd fc oc cn) := hD
  refine lv_aload_n hx hb d_G_placeObject_12 rfl (lv_at hl 0 rfl) ?_
  refine va_get (D := D) (ci := 0) (v := .ref (hs 6)) (C := R_G) (T := F_G) (N := 12) hx hb ht in_G hown hK hP 0 rfl rfl 5 (by decide) (ht _ wm_60) (fun _ h9 => h9) rfl d_G_placeObject_13 ?_
  refine lv_iload_n hx hb d_G_placeObject_16 rfl (lv_at hl 1 rfl) ?_
  refine lv_iload_n hx hb d_G_placeObject_17 rfl (lv_at hl 2 rfl) ?_
  refine nx_iast hx hb hK hP hD hS 6 5 nI ln rfl rfl a0 lz (by omega) (by decide) d_G_placeObject_18 (fun H locs hP hD hS => ?_)
  have hP : va_P D cl_all (gw_G ca hs rt wd (st_ob ob a0 lz) (va_up ln a0 lz) kd qt df mk fd fc oc cn) H := hP
  have hD : va_D (gx_A hs 10) (gw_G ca hs rt wd (st_ob ob a0 lz) (va_up ln a0 lz) kd qt df mk fd fc oc cn) := hD
  refine lv_aload_n hx hb d_G_placeObject_19 rfl (lv_at hl 0 rfl) ?_
  refine va_get (D := D) (ci := 0) (v := .ref (hs 7)) (C := R_G) (T := F_G) (N := 12) hx hb ht in_G hown hK hP 0 rfl rfl 6 (by decide) (ht _ wm_61) (fun _ h9 => h9) rfl d_G_placeObject_20 ?_
  refine lv_iload_n hx hb d_G_placeObject_23 rfl (lv_at hl 1 rfl) ?_
  refine lv_iload_n hx hb d_G_placeObject_24 rfl (lv_at hl 3 rfl) ?_
  refine nx_zast hx hb hK hP hD hS 7 6 qt rfl rfl a0 sl (by omega) (by decide) d_G_placeObject_25 (fun H locs hP hD hS => ?_)
  have hP : va_P D cl_all (gw_G ca hs rt wd (st_ob ob a0 lz) (va_up ln a0 lz) kd (va_up qt a0 sl) df mk fd fc oc cn) H := hP
  have hD : va_D (gx_A hs 10) (gw_G ca hs rt wd (st_ob ob a0 lz) (va_up ln a0 lz) kd (va_up qt a0 sl) df mk fd fc oc cn) := hD
  refine lv_aload_n hx hb d_G_placeObject_26 rfl (lv_at hl 0 rfl) ?_
  refine lv_dup hx hb d_G_placeObject_27 rfl ?_
  refine va_get (D := D) (ci := 0) (v := .int (nI oc)) (C := R_G) (T := F_G) (N := 12) hx hb ht in_G hown hK hP 0 rfl rfl 10 (by decide) (ht _ wm_65) (fun _ h9 => h9) rfl d_G_placeObject_28 ?_
  refine lv_iconst (v := nI 1) hx hb d_G_placeObject_31 (by decide +kernel) ?_
  refine nx_iadd hx hb d_G_placeObject_32 ?_
  refine va_put (D := D) (ci := 0) (v := .int (nI (oc + 1))) (ty := .int) (C := R_G) (T := F_G) (N := 12) hx hb ht in_G t_G t_G_ok n_G_ne hown hK hP hD hS 0 rfl rfl 10 (by decide) (ht _ wm_65) (fun _ h9 => h9) rfl (by decide +kernel) rfl rfl (Nat.le_of_ble_eq_true rfl) d_G_placeObject_33 (fun H locs hP hD hS => ?_)
  have hP : va_P D cl_all (gw_G ca hs rt wd (st_ob ob a0 lz) (va_up ln a0 lz) kd (va_up qt a0 sl) df mk fd fc (oc + 1) cn) H := hP
  have hD : va_D (gx_A hs 10) (gw_G ca hs rt wd (st_ob ob a0 lz) (va_up ln a0 lz) kd (va_up qt a0 sl) df mk fd fc (oc + 1) cn) := hD
  refine hret 36 ls _ _ _ d_G_placeObject_36 hP hS ?_ ?_
  · exact gw_G_adr.trans gw_G_adr.symm
  · exact ⟨rfl, rfl⟩

set_option maxHeartbeats 4000000 in
set_option maxRecDepth 100000 in
theorem c_G_placeSmall (l : Launch) (D : va_G) (ca : Nat → ClassId) (hs : Nat → Nat) (rt : Nat → Int32) (wd : Nat → Int32) (ob : Nat → Nat) (ln : Nat → Nat) (kd : Nat → Nat) (qt : Nat → Bool) (df : Nat → Bool) (mk : Nat → Bool) (fd : Nat → Nat) (fc : Nat) (oc : Nat) (cn : Nat) (a0 z : Nat) (sl : Bool) (hz : 1 ≤ z) (hal : a0 + z ≤ 512) : Met l y_G_placeSmall (Cond.code y_G_placeSmall b_G_placeSmall 4 none :: wa_all) (rm_d 3) (va_Pc [.ref (hs 0), .int (nI a0), .int (nI z), .int (zb_e sl)] (gx_I D cl_all (ty_G ca) (gw_G ca hs rt wd ob ln kd qt df mk fd fc oc cn))) (gx_Q D cl_all (gx_A hs 10) (gw_G ca hs rt wd ob ln kd qt df mk fd fc oc cn) (fun v w' => v = none ∧ w' = gw_G ca hs rt wd (st_ob ob a0 z) (va_up ln a0 z) (va_up kd (a0 / 32) z) (va_up qt a0 sl) (va_up df (a0 / 32) false) mk fd fc (oc + 1) cn)) 0 0 (gx_A hs 10) := by
  refine gx_mutV (by decide) (Nat.le_of_ble_eq_true rfl) gw_G_in ?_
  intro p e s m args below meth c ls Q hx hb hml ht hown hret hP hK hD hS hl
  have hl : lv_has ls 4 [(0, .ref (hs 0)), (1, .int (nI a0)), (2, .int (nI z)), (3, .int (zb_e sl))] := hl
  have hown : s.vm.findClass R_G = some m.cls := hown
  have hP : va_P D cl_all (gw_G ca hs rt wd ob ln kd qt df mk fd fc oc cn) s.heap := hP
  refine lv_aload_n hx hb d_G_placeSmall_0 rfl (lv_at hl 0 rfl) ?_
  refine lv_iload_n hx hb d_G_placeSmall_1 rfl (lv_at hl 1 rfl) ?_
  refine lv_bipush (v := nI 32) hx hb d_G_placeSmall_2 (by decide +kernel) ?_
  refine nx_idiv hx hb d_G_placeSmall_4 (by omega) (by omega) (by omega) ?_
  refine lv_iload_n hx hb d_G_placeSmall_5 rfl (lv_at hl 2 rfl) ?_
  refine gx_cM (n := 2) (q0 := 0) (ci := 0) (q := (R_G, F_G, 12)) (C := R_G) (own := R_G) (As := [.int (nI (a0 / 32)), .int (nI z)]) (rest := []) ⟨hx, hb, hml, hown, ht⟩ hg_all (c_G_takeBlock l D ca hs (rt) (wd) (ob) (ln) (kd) (qt) (df) (mk) (fd) (fc) (oc) (cn) (a0 / 32) (by omega) (z)) wm_285 wm_286 wm_17 wm_34 wm_287 ⟨rfl, by decide, by decide, by decide +kernel⟩ rfl ⟨rfl, rfl⟩ ⟨by decide, by decide⟩ ⟨by decide, by decide⟩ hK hP hD hS (fun _ h => h) rfl rfl rfl hl.1 rfl (Nat.le_of_ble_eq_true rfl) d_G_placeSmall_6 (fun v w' H locs hZ hP hD hS _ _ => ?_)
  obtain ⟨rfl, rfl⟩ := hZ
  have hP : va_P D cl_all (gw_G ca hs rt wd ob ln (va_up (kd) (a0 / 32) (z)) qt (va_up (df) (a0 / 32) false) mk fd fc oc cn) H := hP
  have hD : va_D (gx_A hs 10) (gw_G ca hs rt wd ob ln (va_up (kd) (a0 / 32) (z)) qt (va_up (df) (a0 / 32) false) mk fd fc oc cn) := hD
  refine lv_aload_n hx hb d_G_placeSmall_9 rfl (lv_at hl 0 rfl) ?_
  refine lv_iload_n hx hb d_G_placeSmall_10 rfl (lv_at hl 1 rfl) ?_
  refine lv_iload_n hx hb d_G_placeSmall_11 rfl (lv_at hl 2 rfl) ?_
  refine lv_iload_n hx hb d_G_placeSmall_12 rfl (lv_at hl 3 rfl) ?_
  refine gx_cM (n := 3) (q0 := 0) (ci := 0) (q := (R_G, F_G, 12)) (C := R_G) (own := R_G) (As := [.int (nI a0), .int (nI z), .int (zb_e sl)]) (rest := []) ⟨hx, hb, hml, hown, ht⟩ hg_all (c_G_placeObject l D ca hs (rt) (wd) (ob) (ln) (va_up (kd) (a0 / 32) (z)) (qt) (va_up (df) (a0 / 32) false) (mk) (fd) (fc) (oc) (cn) (a0) (z) (sl) (by omega) (by omega)) wm_288 wm_289 wm_18 wm_34 wm_290 ⟨rfl, by decide, by decide, by decide +kernel⟩ rfl ⟨rfl, rfl⟩ ⟨by decide, by decide⟩ ⟨by decide, by decide⟩ hK hP hD hS (fun _ h => h) rfl rfl rfl hl.1 rfl (Nat.le_of_ble_eq_true rfl) d_G_placeSmall_13 (fun v w' H locs hZ hP hD hS _ _ => ?_)
  obtain ⟨rfl, rfl⟩ := hZ
  have hP : va_P D cl_all (gw_G ca hs rt wd (st_ob (ob) (a0) (z)) (va_up (ln) (a0) (z)) (va_up (kd) (a0 / 32) (z)) (va_up (qt) (a0) sl) (va_up (df) (a0 / 32) false) mk fd fc (oc + 1) cn) H := hP
  have hD : va_D (gx_A hs 10) (gw_G ca hs rt wd (st_ob (ob) (a0) (z)) (va_up (ln) (a0) (z)) (va_up (kd) (a0 / 32) (z)) (va_up (qt) (a0) sl) (va_up (df) (a0 / 32) false) mk fd fc (oc + 1) cn) := hD
  refine hret 16 ls _ _ _ d_G_placeSmall_16 hP hS ?_ ?_
  · exact gw_G_adr.trans gw_G_adr.symm
  · exact ⟨rfl, rfl⟩

def pu_kd (kd : Nat → Nat) (fi x : Nat) : Nat → Nat := fun j => if fi ≤ j ∧ j < x then (if j = fi then 32 else 33) else kd j
def pu_df (df : Nat → Bool) (fi x : Nat) : Nat → Bool := fun j => if fi ≤ j ∧ j < x then false else df j
theorem pu_k0 (kd : Nat → Nat) (fi : Nat) : va_up kd fi 32 = pu_kd kd fi (fi + 1) := by
  funext j
  unfold va_up pu_kd
  by_cases e : j = fi
  · rw [if_pos e, if_pos (show fi ≤ j ∧ j < fi + 1 by omega), if_pos e]
  · rw [if_neg e, if_neg (show ¬ (fi ≤ j ∧ j < fi + 1) by omega)]
theorem pu_d0 (df : Nat → Bool) (fi : Nat) : va_up df fi false = pu_df df fi (fi + 1) := by
  funext j
  unfold va_up pu_df
  by_cases e : j = fi
  · rw [if_pos e, if_pos (show fi ≤ j ∧ j < fi + 1 by omega)]
  · rw [if_neg e, if_neg (show ¬ (fi ≤ j ∧ j < fi + 1) by omega)]
theorem pu_ku (kd : Nat → Nat) {fi x : Nat} (h : fi + 1 ≤ x) : va_up (pu_kd kd fi x) x 33 = pu_kd kd fi (x + 1) := by
  funext j
  unfold va_up pu_kd
  by_cases e : j = x
  · rw [if_pos e, if_pos (show fi ≤ j ∧ j < x + 1 by omega), if_neg (show ¬ j = fi by omega)]
  · rw [if_neg e]
    by_cases q : fi ≤ j ∧ j < x
    · rw [if_pos q, if_pos (show fi ≤ j ∧ j < x + 1 by omega)]
    · rw [if_neg q, if_neg (show ¬ (fi ≤ j ∧ j < x + 1) by omega)]
theorem pu_du (df : Nat → Bool) {fi x : Nat} (h : fi + 1 ≤ x) : va_up (pu_df df fi x) x false = pu_df df fi (x + 1) := by
  funext j
  unfold va_up pu_df
  by_cases e : j = x
  · rw [if_pos e, if_pos (show fi ≤ j ∧ j < x + 1 by omega)]
  · rw [if_neg e]
    by_cases q : fi ≤ j ∧ j < x
    · rw [if_pos q, if_pos (show fi ≤ j ∧ j < x + 1 by omega)]
    · rw [if_neg q, if_neg (show ¬ (fi ≤ j ∧ j < x + 1) by omega)]
theorem pu_ke (kd : Nat → Nat) (fi k : Nat) : pu_kd kd fi (fi + k) = st_kd kd (32 * fi) (k * 32) 17 := by
  funext j
  unfold pu_kd st_kd
  rw [show 32 * fi / 32 = fi by omega]
  by_cases q : fi ≤ j ∧ j < fi + k
  · rw [if_pos q, if_pos (show fi ≤ j ∧ 32 * j < 32 * fi + k * 32 by omega), if_neg (show ¬ 17 ≤ 16 by decide)]
  · rw [if_neg q, if_neg (show ¬ (fi ≤ j ∧ 32 * j < 32 * fi + k * 32) by omega)]
theorem pu_de (df : Nat → Bool) (fi k : Nat) : pu_df df fi (fi + k) = st_df df (32 * fi) (k * 32) := by
  funext j
  unfold pu_df st_df
  rw [show 32 * fi / 32 = fi by omega]
  by_cases q : fi ≤ j ∧ j < fi + k
  · rw [if_pos q, if_pos (show fi ≤ j ∧ 32 * j < 32 * fi + k * 32 by omega)]
  · rw [if_neg q, if_neg (show ¬ (fi ≤ j ∧ 32 * j < 32 * fi + k * 32) by omega)]
set_option maxHeartbeats 4000000 in
set_option maxRecDepth 100000 in
theorem c_G_placeLarge (l : Launch) (D : va_G) (ca : Nat → ClassId) (hs : Nat → Nat) (rt : Nat → Int32) (wd : Nat → Int32) (ob : Nat → Nat) (ln : Nat → Nat) (kd : Nat → Nat) (qt : Nat → Bool) (df : Nat → Bool) (mk : Nat → Bool) (fd : Nat → Nat) (fc : Nat) (oc : Nat) (cn : Nat) (fi k : Nat) (sl : Bool) (hk1 : 1 ≤ k) (hal : fi + k ≤ 16) : Met l y_G_placeLarge (Cond.code y_G_placeLarge b_G_placeLarge 6 none :: wa_all) (rm_d 3) (va_Pc [.ref (hs 0), .int (nI (32 * fi)), .int (nI k), .int (zb_e sl)] (gx_I D cl_all (ty_G ca) (gw_G ca hs rt wd ob ln kd qt df mk fd fc oc cn))) (gx_Q D cl_all (gx_A hs 10) (gw_G ca hs rt wd ob ln kd qt df mk fd fc oc cn) (fun v w' => v = none ∧ w' = gw_G ca hs rt wd (st_ob ob (32 * fi) (k * 32)) (va_up ln (32 * fi) (k * 32)) (st_kd kd (32 * fi) (k * 32) 17) (va_up qt (32 * fi) sl) (st_df df (32 * fi) (k * 32)) mk fd fc (oc + 1) cn)) 0 0 (gx_A hs 10) := by
  refine gx_mutV (by decide) (Nat.le_of_ble_eq_true rfl) gw_G_in ?_
  intro p e s m args below meth c ls Q hx hb hml ht hown hret hP hK hD hS hl
  have hl : lv_has ls 6 [(0, .ref (hs 0)), (1, .int (nI (32 * fi))), (2, .int (nI k)), (3, .int (zb_e sl))] := hl
  have hown : s.vm.findClass R_G = some m.cls := hown
  have hP : va_P D cl_all (gw_G ca hs rt wd ob ln kd qt df mk fd fc oc cn) s.heap := hP
  refine lv_iload_n hx hb d_G_placeLarge_0 rfl (lv_at hl 1 rfl) ?_
  refine lv_bipush (v := nI 32) hx hb d_G_placeLarge_1 (by decide +kernel) ?_
  refine nx_idiv hx hb d_G_placeLarge_3 (by omega) (by omega) (by omega) ?_
  refine nx_top (show nI (32 * fi / 32) = nI fi by rw [show 32 * fi / 32 = fi by omega]) ?_
  refine lv_istore (lv' := [(4, .int (nI fi)), (0, .ref (hs 0)), (1, .int (nI (32 * fi))), (2, .int (nI k)), (3, .int (zb_e sl))]) hx hb d_G_placeLarge_4 hl (by decide) rfl (fun ls hl => ?_)
  refine lv_aload_n hx hb d_G_placeLarge_6 rfl (lv_at hl 1 rfl) ?_
  refine lv_iload hx hb d_G_placeLarge_7 (lv_at hl 0 rfl) ?_
  refine lv_bipush (v := nI 32) hx hb d_G_placeLarge_9 (by decide +kernel) ?_
  refine gx_cM (n := 2) (q0 := 0) (ci := 0) (q := (R_G, F_G, 12)) (C := R_G) (own := R_G) (As := [.int (nI fi), .int (nI 32)]) (rest := []) ⟨hx, hb, hml, hown, ht⟩ hg_all (c_G_takeBlock l D ca hs (rt) (wd) (ob) (ln) (kd) (qt) (df) (mk) (fd) (fc) (oc) (cn) (fi) (by omega) (32)) wm_285 wm_286 wm_17 wm_34 wm_287 ⟨rfl, by decide, by decide, by decide +kernel⟩ rfl ⟨rfl, rfl⟩ ⟨by decide, by decide⟩ ⟨by decide, by decide⟩ hK hP hD hS (fun _ h => h) rfl rfl rfl hl.1 rfl (Nat.le_of_ble_eq_true rfl) d_G_placeLarge_11 (fun v w' H locs hZ hP hD hS _ _ => ?_)
  obtain ⟨rfl, rfl⟩ := hZ
  have hP : va_P D cl_all (gw_G ca hs rt wd ob ln (va_up (kd) (fi) (32)) qt (va_up (df) (fi) false) mk fd fc oc cn) H := hP
  have hD : va_D (gx_A hs 10) (gw_G ca hs rt wd ob ln (va_up (kd) (fi) (32)) qt (va_up (df) (fi) false) mk fd fc oc cn) := hD
  rw [pu_k0, pu_d0] at hP hD
  have hP : va_P D cl_all (gw_G ca hs rt wd ob ln (pu_kd kd fi (fi + 1)) qt (pu_df df fi (fi + 1)) mk fd fc oc cn) H := hP
  have hD : va_D (gx_A hs 10) (gw_G ca hs rt wd ob ln (pu_kd kd fi (fi + 1)) qt (pu_df df fi (fi + 1)) mk fd fc oc cn) := hD
  refine lv_iload hx hb d_G_placeLarge_14 (lv_at hl 0 rfl) ?_
  refine lv_iconst (v := nI 1) hx hb d_G_placeLarge_16 (by decide +kernel) ?_
  refine nx_iadd hx hb d_G_placeLarge_17 ?_
  refine lv_istore (lv' := [(5, .int (nI (fi + 1))), (4, .int (nI fi)), (0, .ref (hs 0)), (1, .int (nI (32 * fi))), (2, .int (nI k)), (3, .int (zb_e sl))]) hx hb d_G_placeLarge_18 hl (by decide) rfl (fun ls hl => ?_)
  have key20 : ∀ (n9 : Nat) (x : Nat) (H : Heap) (locs : List Loc) (ls : Array Slot), fi + k - x = n9 → fi + 1 ≤ x → x ≤ fi + k → lv_has ls 6 [(0, .ref (hs 0)), (1, .int (nI (32 * fi))), (2, .int (nI k)), (3, .int (zb_e sl)), (4, .int (nI fi)), (5, .int (nI x))] → va_P D cl_all (gw_G ca hs rt wd ob ln (pu_kd kd fi x) qt (pu_df df fi x) mk fd fc oc cn) H → va_D (gx_A hs 10) (gw_G ca hs rt wd ob ln (pu_kd kd fi x) qt (pu_df df fi x) mk fd fc oc cn) → va_S (gx_A hs 10) s.heap H locs → W p l e (rm_d 3) s m args below meth c H locs 0 0 Q (F0 m 20 ls []) := by
    intro n9
    induction n9 using Nat.strongRecOn with
    | ind n9 ih20 =>
      intro x H locs ls hn20 hx1 hx2 hl hP hD hS
      refine lv_iload hx hb d_G_placeLarge_20 (lv_at hl 5 rfl) ?_
      refine lv_iload hx hb d_G_placeLarge_22 (lv_at hl 4 rfl) ?_
      refine lv_iload_n hx hb d_G_placeLarge_24 rfl (lv_at hl 2 rfl) ?_
      refine nx_iadd hx hb d_G_placeLarge_25 ?_
      refine nx_icmp_ge (tgt := 43) hx hb d_G_placeLarge_26 (by decide) (by omega) (by omega) (fun h26 => ?_) (fun h26 => ?_)
      · skip
        have ex : x = fi + k := by omega
        subst ex
        rw [pu_ke, pu_de] at hP hD
        have hP : va_P D cl_all (gw_G ca hs rt wd ob ln (st_kd kd (32 * fi) (k * 32) 17) qt (st_df df (32 * fi) (k * 32)) mk fd fc oc cn) H := hP
        have hD : va_D (gx_A hs 10) (gw_G ca hs rt wd ob ln (st_kd kd (32 * fi) (k * 32) 17) qt (st_df df (32 * fi) (k * 32)) mk fd fc oc cn) := hD
        refine lv_aload_n hx hb d_G_placeLarge_43 rfl (lv_at hl 0 rfl) ?_
        refine lv_iload_n hx hb d_G_placeLarge_44 rfl (lv_at hl 1 rfl) ?_
        refine lv_iload_n hx hb d_G_placeLarge_45 rfl (lv_at hl 2 rfl) ?_
        refine lv_bipush (v := nI 32) hx hb d_G_placeLarge_46 (by decide +kernel) ?_
        refine nx_imul hx hb d_G_placeLarge_48 ?_
        refine lv_iload_n hx hb d_G_placeLarge_49 rfl (lv_at hl 3 rfl) ?_
        refine gx_cM (n := 3) (q0 := 0) (ci := 0) (q := (R_G, F_G, 12)) (C := R_G) (own := R_G) (As := [.int (nI (32 * fi)), .int (nI (k * 32)), .int (zb_e sl)]) (rest := []) ⟨hx, hb, hml, hown, ht⟩ hg_all (c_G_placeObject l D ca hs (rt) (wd) (ob) (ln) (st_kd kd (32 * fi) (k * 32) 17) (qt) (st_df df (32 * fi) (k * 32)) (mk) (fd) (fc) (oc) (cn) (32 * fi) (k * 32) (sl) (by omega) (by omega)) wm_288 wm_289 wm_18 wm_34 wm_290 ⟨rfl, by decide, by decide, by decide +kernel⟩ rfl ⟨rfl, rfl⟩ ⟨by decide, by decide⟩ ⟨by decide, by decide⟩ hK hP hD hS (fun _ h => h) rfl rfl rfl hl.1 rfl (Nat.le_of_ble_eq_true rfl) d_G_placeLarge_50 (fun v w' H locs hZ hP hD hS _ _ => ?_)
        obtain ⟨rfl, rfl⟩ := hZ
        have hP : va_P D cl_all (gw_G ca hs rt wd (st_ob (ob) (32 * fi) (k * 32)) (va_up (ln) (32 * fi) (k * 32)) (st_kd kd (32 * fi) (k * 32) 17) (va_up (qt) (32 * fi) sl) (st_df df (32 * fi) (k * 32)) mk fd fc (oc + 1) cn) H := hP
        have hD : va_D (gx_A hs 10) (gw_G ca hs rt wd (st_ob (ob) (32 * fi) (k * 32)) (va_up (ln) (32 * fi) (k * 32)) (st_kd kd (32 * fi) (k * 32) 17) (va_up (qt) (32 * fi) sl) (st_df df (32 * fi) (k * 32)) mk fd fc (oc + 1) cn) := hD
        refine hret 53 ls _ _ _ d_G_placeLarge_53 hP hS ?_ ?_
        · exact gw_G_adr.trans gw_G_adr.symm
        · exact ⟨rfl, rfl⟩
      · skip
        refine lv_aload_n hx hb d_G_placeLarge_29 rfl (lv_at hl 0 rfl) ?_
        refine lv_iload hx hb d_G_placeLarge_30 (lv_at hl 5 rfl) ?_
        refine lv_bipush (v := nI 33) hx hb d_G_placeLarge_32 (by decide +kernel) ?_
        refine gx_cM (n := 2) (q0 := 0) (ci := 0) (q := (R_G, F_G, 12)) (C := R_G) (own := R_G) (As := [.int (nI x), .int (nI 33)]) (rest := []) ⟨hx, hb, hml, hown, ht⟩ hg_all (c_G_takeBlock l D ca hs (rt) (wd) (ob) (ln) (pu_kd kd fi x) (qt) (pu_df df fi x) (mk) (fd) (fc) (oc) (cn) (x) (by omega) (33)) wm_285 wm_286 wm_17 wm_34 wm_287 ⟨rfl, by decide, by decide, by decide +kernel⟩ rfl ⟨rfl, rfl⟩ ⟨by decide, by decide⟩ ⟨by decide, by decide⟩ hK hP hD hS (fun _ h => h) rfl rfl rfl hl.1 rfl (Nat.le_of_ble_eq_true rfl) d_G_placeLarge_34 (fun v w' H locs hZ hP hD hS _ _ => ?_)
        obtain ⟨rfl, rfl⟩ := hZ
        have hP : va_P D cl_all (gw_G ca hs rt wd ob ln (va_up (pu_kd kd fi x) (x) (33)) qt (va_up (pu_df df fi x) (x) false) mk fd fc oc cn) H := hP
        have hD : va_D (gx_A hs 10) (gw_G ca hs rt wd ob ln (va_up (pu_kd kd fi x) (x) (33)) qt (va_up (pu_df df fi x) (x) false) mk fd fc oc cn) := hD
        refine lv_iinc (k := 5) (v := nI (x + 1)) (lv' := [(5, .int (nI (x + 1))), (0, .ref (hs 0)), (1, .int (nI (32 * fi))), (2, .int (nI k)), (3, .int (zb_e sl)), (4, .int (nI fi))]) hx hb d_G_placeLarge_37 hl rfl (nx_inc1 _) (by decide) rfl (fun ls hl => ?_)
        refine lv_goto (tgt := 20) hx hb d_G_placeLarge_40 (by decide) ?_
        rw [pu_ku kd hx1, pu_du df hx1] at hP hD
        exact ih20 _ (by omega) (x + 1) _ _ _ rfl (by omega) (by omega) (lv_sub hl [1, 2, 3, 4, 5, 0] rfl) hP hD hS
  exact key20 _ (fi + 1) _ _ _ rfl (Nat.le_refl _) (by omega) (lv_sub hl [2, 3, 4, 5, 1, 0] rfl) hP hD hS

set_option maxHeartbeats 4000000 in
set_option maxRecDepth 100000 in
theorem c_G_forgetMarks (l : Launch) (D : va_G) (ca : Nat → ClassId) (hs : Nat → Nat) (rt : Nat → Int32) (wd : Nat → Int32) (ob : Nat → Nat) (ln : Nat → Nat) (kd : Nat → Nat) (qt : Nat → Bool) (df : Nat → Bool) (mk : Nat → Bool) (fd : Nat → Nat) (fc : Nat) (oc : Nat) (cn : Nat)  : Met l y_G_forgetMarks (Cond.code y_G_forgetMarks b_G_forgetMarks 2 none :: wa_all) (rm_d 0) (va_Pc [.ref (hs 0)] (gx_I D cl_all (ty_G ca) (gw_G ca hs rt wd ob ln kd qt df mk fd fc oc cn))) (gx_Q D cl_all (gx_A hs 10) (gw_G ca hs rt wd ob ln kd qt df mk fd fc oc cn) (fun v w' => v = none ∧ w' = gw_G ca hs rt wd ob ln kd qt ((fun _ : Nat => false)) ((fun _ : Nat => false)) fd 0 oc cn)) 0 0 (gx_A hs 10) := by
  refine gx_mutV (by decide) (Nat.le_of_ble_eq_true rfl) gw_G_in ?_
  intro p e s m args below meth c ls Q hx hb hml ht hown hret hP hK hD hS hl
  have hl : lv_has ls 2 [(0, .ref (hs 0))] := hl
  have hown : s.vm.findClass R_G = some m.cls := hown
  have hP : va_P D cl_all (gw_G ca hs rt wd ob ln kd qt df mk fd fc oc cn) s.heap := hP
  refine lv_iconst (v := nI 0) hx hb d_G_forgetMarks_0 (by decide +kernel) ?_
  refine lv_istore_n (lv' := [(1, .int (nI 0)), (0, .ref (hs 0))]) hx hb d_G_forgetMarks_1 rfl hl (by decide) rfl (fun ls hl => ?_)
  have key2 : ∀ (n9 : Nat) (i : Nat) (df2 : Nat → Bool) (H : Heap) (locs : List Loc) (ls : Array Slot), 16 - i = n9 → i ≤ 16 → (∀ j, df2 j = if j < i then false else df j) → lv_has ls 2 [(0, .ref (hs 0)), (1, .int (nI i))] → va_P D cl_all (gw_G ca hs rt wd ob ln kd qt df2 mk fd fc oc cn) H → va_D (gx_A hs 10) (gw_G ca hs rt wd ob ln kd qt df2 mk fd fc oc cn) → va_S (gx_A hs 10) s.heap H locs → W p l e (rm_d 0) s m args below meth c H locs 0 0 Q (F0 m 2 ls []) := by
    intro n9
    induction n9 using Nat.strongRecOn with
    | ind n9 ih2 =>
      intro i df2 H locs ls hn2 hi hd2 hl hP hD hS
      refine lv_iload_n hx hb d_G_forgetMarks_2 rfl (lv_at hl 1 rfl) ?_
      refine lv_bipush (v := nI 16) hx hb d_G_forgetMarks_3 (by decide +kernel) ?_
      refine nx_icmp_ge (tgt := 21) hx hb d_G_forgetMarks_5 (by decide) (by omega) (by omega) (fun h5 => ?_) (fun h5 => ?_)
      · skip
        have hP := gx_ext hP (q0 := 3) (g := fun j => zb_e (((fun _ : Nat => false)) j)) rfl (fun j hj => by rw [hd2 j, if_pos (by omega)])
        have hD := gx_Dadr hD (w' := gw_G ca hs rt wd ob ln kd qt ((fun _ : Nat => false)) mk fd fc oc cn) (gw_G_adr.trans gw_G_adr.symm)
        have hP : va_P D cl_all (gw_G ca hs rt wd ob ln kd qt ((fun _ : Nat => false)) mk fd fc oc cn) H := hP
        have hD : va_D (gx_A hs 10) (gw_G ca hs rt wd ob ln kd qt ((fun _ : Nat => false)) mk fd fc oc cn) := hD
        refine lv_iconst (v := nI 0) hx hb d_G_forgetMarks_21 (by decide +kernel) ?_
        refine lv_istore_n (lv' := [(1, .int (nI 0)), (0, .ref (hs 0))]) hx hb d_G_forgetMarks_22 rfl hl (by decide) rfl (fun ls hl => ?_)
        have key23 : ∀ (n9 : Nat) (i : Nat) (mk2 : Nat → Bool) (H : Heap) (locs : List Loc) (ls : Array Slot), 512 - i = n9 → i ≤ 512 → (∀ j, mk2 j = if j < i then false else mk j) → lv_has ls 2 [(0, .ref (hs 0)), (1, .int (nI i))] → va_P D cl_all (gw_G ca hs rt wd ob ln kd qt ((fun _ : Nat => false)) mk2 fd fc oc cn) H → va_D (gx_A hs 10) (gw_G ca hs rt wd ob ln kd qt ((fun _ : Nat => false)) mk2 fd fc oc cn) → va_S (gx_A hs 10) s.heap H locs → W p l e (rm_d 0) s m args below meth c H locs 0 0 Q (F0 m 23 ls []) := by
          intro n9
          induction n9 using Nat.strongRecOn with
          | ind n9 ih23 =>
            intro i mk2 H locs ls hn23 hi hm2 hl hP hD hS
            refine lv_iload_n hx hb d_G_forgetMarks_23 rfl (lv_at hl 1 rfl) ?_
            refine lv_sipush (v := nI 512) hx hb d_G_forgetMarks_24 (by decide +kernel) ?_
            refine nx_icmp_ge (tgt := 43) hx hb d_G_forgetMarks_27 (by decide) (by omega) (by omega) (fun h27 => ?_) (fun h27 => ?_)
            · skip
              have hP := gx_ext hP (q0 := 8) (g := fun j => zb_e (((fun _ : Nat => false)) j)) rfl (fun j hj => by rw [hm2 j, if_pos (by omega)])
              have hD := gx_Dadr hD (w' := gw_G ca hs rt wd ob ln kd qt ((fun _ : Nat => false)) ((fun _ : Nat => false)) fd fc oc cn) (gw_G_adr.trans gw_G_adr.symm)
              have hP : va_P D cl_all (gw_G ca hs rt wd ob ln kd qt ((fun _ : Nat => false)) ((fun _ : Nat => false)) fd fc oc cn) H := hP
              have hD : va_D (gx_A hs 10) (gw_G ca hs rt wd ob ln kd qt ((fun _ : Nat => false)) ((fun _ : Nat => false)) fd fc oc cn) := hD
              refine lv_aload_n hx hb d_G_forgetMarks_43 rfl (lv_at hl 0 rfl) ?_
              refine lv_iconst (v := nI 0) hx hb d_G_forgetMarks_44 (by decide +kernel) ?_
              refine va_put (D := D) (ci := 0) (v := .int (nI 0)) (ty := .int) (C := R_G) (T := F_G) (N := 12) hx hb ht in_G t_G t_G_ok n_G_ne hown hK hP hD hS 0 rfl rfl 9 (by decide) (ht _ wm_64) (fun _ h9 => h9) rfl (by decide +kernel) rfl rfl (Nat.le_of_ble_eq_true rfl) d_G_forgetMarks_45 (fun H locs hP hD hS => ?_)
              have hP : va_P D cl_all (gw_G ca hs rt wd ob ln kd qt ((fun _ : Nat => false)) ((fun _ : Nat => false)) fd 0 oc cn) H := hP
              have hD : va_D (gx_A hs 10) (gw_G ca hs rt wd ob ln kd qt ((fun _ : Nat => false)) ((fun _ : Nat => false)) fd 0 oc cn) := hD
              refine hret 48 ls _ _ _ d_G_forgetMarks_48 hP hS ?_ ?_
              · exact gw_G_adr.trans gw_G_adr.symm
              · exact ⟨rfl, rfl⟩
            · skip
              refine lv_aload_n hx hb d_G_forgetMarks_30 rfl (lv_at hl 0 rfl) ?_
              refine va_get (D := D) (ci := 0) (v := .ref (hs 8)) (C := R_G) (T := F_G) (N := 12) hx hb ht in_G hown hK hP 0 rfl rfl 7 (by decide) (ht _ wm_62) (fun _ h9 => h9) rfl d_G_forgetMarks_31 ?_
              refine lv_iload_n hx hb d_G_forgetMarks_34 rfl (lv_at hl 1 rfl) ?_
              refine lv_iconst (v := zb_e false) hx hb d_G_forgetMarks_35 (by decide +kernel) ?_
              refine nx_zast hx hb hK hP hD hS 8 7 mk2 rfl rfl i false (by omega) (by decide) d_G_forgetMarks_36 (fun H locs hP hD hS => ?_)
              have hP : va_P D cl_all (gw_G ca hs rt wd ob ln kd qt ((fun _ : Nat => false)) (va_up mk2 i false) fd fc oc cn) H := hP
              have hD : va_D (gx_A hs 10) (gw_G ca hs rt wd ob ln kd qt ((fun _ : Nat => false)) (va_up mk2 i false) fd fc oc cn) := hD
              refine lv_iinc (k := 1) (v := nI (i + 1)) (lv' := [(1, .int (nI (i + 1))), (0, .ref (hs 0))]) hx hb d_G_forgetMarks_37 hl rfl (nx_inc1 _) (by decide) rfl (fun ls hl => ?_)
              refine lv_goto (tgt := 23) hx hb d_G_forgetMarks_40 (by decide) ?_
              exact ih23 _ (by omega) (i + 1) (va_up mk2 i false) _ _ _ rfl (by omega) (fun j => by
                  by_cases e : j = i
                  · rw [e, va_up_self, if_pos (by omega)]
                  · rw [va_up_ne _ _ e, hm2 j]
                    by_cases q : j < i
                    · rw [if_pos q, if_pos (by omega)]
                    · rw [if_neg q, if_neg (by omega)]) (lv_sub hl [1, 0] rfl) hP hD hS
        exact key23 _ (0) (mk) _ _ _ rfl (Nat.zero_le _) (fun j => by rw [if_neg (by omega)]) (lv_sub hl [1, 0] rfl) hP hD hS
      · skip
        refine lv_aload_n hx hb d_G_forgetMarks_8 rfl (lv_at hl 0 rfl) ?_
        refine va_get (D := D) (ci := 0) (v := .ref (hs 3)) (C := R_G) (T := F_G) (N := 12) hx hb ht in_G hown hK hP 0 rfl rfl 2 (by decide) (ht _ wm_57) (fun _ h9 => h9) rfl d_G_forgetMarks_9 ?_
        refine lv_iload_n hx hb d_G_forgetMarks_12 rfl (lv_at hl 1 rfl) ?_
        refine lv_iconst (v := zb_e false) hx hb d_G_forgetMarks_13 (by decide +kernel) ?_
        refine nx_zast hx hb hK hP hD hS 3 2 df2 rfl rfl i false (by omega) (by decide) d_G_forgetMarks_14 (fun H locs hP hD hS => ?_)
        have hP : va_P D cl_all (gw_G ca hs rt wd ob ln kd qt (va_up df2 i false) mk fd fc oc cn) H := hP
        have hD : va_D (gx_A hs 10) (gw_G ca hs rt wd ob ln kd qt (va_up df2 i false) mk fd fc oc cn) := hD
        refine lv_iinc (k := 1) (v := nI (i + 1)) (lv' := [(1, .int (nI (i + 1))), (0, .ref (hs 0))]) hx hb d_G_forgetMarks_15 hl rfl (nx_inc1 _) (by decide) rfl (fun ls hl => ?_)
        refine lv_goto (tgt := 2) hx hb d_G_forgetMarks_18 (by decide) ?_
        exact ih2 _ (by omega) (i + 1) (va_up df2 i false) _ _ _ rfl (by omega) (fun j => by
            by_cases e : j = i
            · rw [e, va_up_self, if_pos (by omega)]
            · rw [va_up_ne _ _ e, hd2 j]
              by_cases q : j < i
              · rw [if_pos q, if_pos (by omega)]
              · rw [if_neg q, if_neg (by omega)]) (lv_sub hl [1, 0] rfl) hP hD hS
  exact key2 _ (0) (df) _ _ _ rfl (Nat.zero_le _) (fun j => by rw [if_neg (by omega)]) (lv_sub hl [1, 0] rfl) hP hD hS

/-- the objects found: all that are marked, each once -/
def fi_I (ob : Nat → Nat) (mk : Nat → Bool) (fd : Nat → Nat) (fc : Nat) : Prop := (∀ p, mk p = true → p < 512 ∧ p % 2 = 0 ∧ ob p = p + 1) ∧ (∀ i, i < fc → mk (fd i) = true) ∧ (∀ p, mk p = true → ∃ i, i < fc ∧ fd i = p) ∧ fc = cn_t (fun i => mk (2 * i)) 256
theorem fi_0 (ob : Nat → Nat) (fd : Nat → Nat) : fi_I ob (fun _ => false) fd 0 := by
  refine ⟨fun p h => (by cases h), fun i h => (by omega), fun p h => (by cases h), ?_⟩
  rw [cn_z 256 (fun i _ => rfl)]
theorem fi_le {ob : Nat → Nat} {mk : Nat → Bool} {fd : Nat → Nat} {fc : Nat} (h : fi_I ob mk fd fc) : fc ≤ 256 := by
  rw [h.2.2.2]
  exact cn_le _ _
theorem fi_lt {ob : Nat → Nat} {mk : Nat → Bool} {fd : Nat → Nat} {fc a0 : Nat} (h : fi_I ob mk fd fc) (ha : a0 < 512) (h2 : a0 % 2 = 0) (hm : mk a0 = false) : fc < 256 := by
  rw [h.2.2.2]
  refine cn_lt (k := a0 / 2) ?_ 256 (by omega)
  rw [show 2 * (a0 / 2) = a0 by omega]
  exact hm
theorem fi_up {ob : Nat → Nat} {mk : Nat → Bool} {fd : Nat → Nat} {fc a0 : Nat} (h : fi_I ob mk fd fc) (ha : a0 < 512) (h2 : a0 % 2 = 0) (hob : ob a0 = a0 + 1) (hm : mk a0 = false) : fi_I ob (va_up mk a0 true) (va_up fd fc a0) (fc + 1) := by
  obtain ⟨q1, q2, q3, q4⟩ := h
  refine ⟨fun p hp => ?_, fun i hi => ?_, fun p hp => ?_, ?_⟩
  · by_cases e : p = a0
    · subst e
      exact ⟨ha, h2, hob⟩
    · rw [va_up_ne _ _ e] at hp
      exact q1 p hp
  · by_cases e : i = fc
    · subst e
      rw [va_up_self, va_up_self]
    · rw [va_up_ne _ _ e]
      have := q2 i (by omega)
      by_cases e2 : fd i = a0
      · rw [e2, va_up_self]
      · rw [va_up_ne _ _ e2]
        exact this
  · by_cases e : p = a0
    · subst e
      exact ⟨fc, by omega, va_up_self _ _ _⟩
    · rw [va_up_ne _ _ e] at hp
      obtain ⟨i, i1, i2⟩ := q3 p hp
      exact ⟨i, by omega, by rw [va_up_ne _ _ (by omega)]; exact i2⟩
  · rw [q4]
    refine (cn_set (P := fun i => mk (2 * i)) (Q := fun i => va_up mk a0 true (2 * i)) (k := a0 / 2) ?_ ?_ 256 (by omega) (fun i hi hne => ?_)).symm
    · show mk (2 * (a0 / 2)) = false
      rw [show 2 * (a0 / 2) = a0 by omega]
      exact hm
    · show va_up mk a0 true (2 * (a0 / 2)) = true
      rw [show 2 * (a0 / 2) = a0 by omega, va_up_self]
    · show mk (2 * i) = va_up mk a0 true (2 * i)
      rw [va_up_ne _ _ (by omega)]
set_option maxHeartbeats 4000000 in
set_option maxRecDepth 100000 in
theorem c_G_mark (l : Launch) (D : va_G) (ca : Nat → ClassId) (hs : Nat → Nat) (rt : Nat → Int32) (wd : Nat → Int32) (ob : Nat → Nat) (ln : Nat → Nat) (kd : Nat → Nat) (qt : Nat → Bool) (df : Nat → Bool) (mk : Nat → Bool) (fd : Nat → Nat) (fc : Nat) (oc : Nat) (cn : Nat) (a0 : Nat) (ha : a0 < 512) (hfc : fc ≤ 256) (hlt : mk a0 = false → fc < 256) : Met l y_G_mark (Cond.code y_G_mark b_G_mark 2 none :: wa_all) (rm_d 0) (va_Pc [.ref (hs 0), .int (nI a0)] (gx_I D cl_all (ty_G ca) (gw_G ca hs rt wd ob ln kd qt df mk fd fc oc cn))) (gx_Q D cl_all (gx_A hs 10) (gw_G ca hs rt wd ob ln kd qt df mk fd fc oc cn) (fun v w' => v = none ∧ ((mk a0 = true ∧ w' = gw_G ca hs rt wd ob ln kd qt df mk fd fc oc cn) ∨ (mk a0 = false ∧ w' = gw_G ca hs rt wd ob ln kd qt df (va_up mk a0 true) (va_up fd fc a0) (fc + 1) oc cn)))) 0 0 (gx_A hs 10) := by
  refine gx_mutV (by decide) (Nat.le_of_ble_eq_true rfl) gw_G_in ?_
  intro p e s m args below meth c ls Q hx hb hml ht hown hret hP hK hD hS hl
  have hl : lv_has ls 2 [(0, .ref (hs 0)), (1, .int (nI a0))] := hl
  have hown : s.vm.findClass R_G = some m.cls := hown
  have hP : va_P D cl_all (gw_G ca hs rt wd ob ln kd qt df mk fd fc oc cn) s.heap := hP
  refine lv_aload_n hx hb d_G_mark_0 rfl (lv_at hl 0 rfl) ?_
  refine va_get (D := D) (ci := 0) (v := .ref (hs 8)) (C := R_G) (T := F_G) (N := 12) hx hb ht in_G hown hK hP 0 rfl rfl 7 (by decide) (ht _ wm_62) (fun _ h9 => h9) rfl d_G_mark_1 ?_
  refine lv_iload_n hx hb d_G_mark_4 rfl (lv_at hl 1 rfl) ?_
  refine nx_zald hx hb hK hP 8 7 zb_e mk rfl rfl a0 (by omega) (by decide) d_G_mark_5 ?_
  refine nx_if_ne_b (tgt := 46) hx hb d_G_mark_6 (by decide) (fun h6 => ?_) (fun h6 => ?_)
  · skip
    refine hret 46 ls _ _ _ d_G_mark_46 hP hS ?_ ?_
    · exact gw_G_adr.trans gw_G_adr.symm
    · exact ⟨rfl, Or.inl ⟨h6, rfl⟩⟩
  · skip
    refine lv_aload_n hx hb d_G_mark_9 rfl (lv_at hl 0 rfl) ?_
    refine va_get (D := D) (ci := 0) (v := .int (nI fc)) (C := R_G) (T := F_G) (N := 12) hx hb ht in_G hown hK hP 0 rfl rfl 9 (by decide) (ht _ wm_64) (fun _ h9 => h9) rfl d_G_mark_10 ?_
    refine lv_sipush (v := nI 256) hx hb d_G_mark_13 (by decide +kernel) ?_
    refine nx_icmp_ge (tgt := 46) hx hb d_G_mark_16 (by decide) (by omega) (by omega) (fun h16 => ?_) (fun h16 => ?_)
    · skip
      have := hlt h6
      omega
    · skip
      refine lv_aload_n hx hb d_G_mark_19 rfl (lv_at hl 0 rfl) ?_
      refine va_get (D := D) (ci := 0) (v := .ref (hs 8)) (C := R_G) (T := F_G) (N := 12) hx hb ht in_G hown hK hP 0 rfl rfl 7 (by decide) (ht _ wm_62) (fun _ h9 => h9) rfl d_G_mark_20 ?_
      refine lv_iload_n hx hb d_G_mark_23 rfl (lv_at hl 1 rfl) ?_
      refine lv_iconst (v := zb_e true) hx hb d_G_mark_24 (by decide +kernel) ?_
      refine nx_zast hx hb hK hP hD hS 8 7 mk rfl rfl a0 true (by omega) (by decide) d_G_mark_25 (fun H locs hP hD hS => ?_)
      have hP : va_P D cl_all (gw_G ca hs rt wd ob ln kd qt df (va_up mk a0 true) fd fc oc cn) H := hP
      have hD : va_D (gx_A hs 10) (gw_G ca hs rt wd ob ln kd qt df (va_up mk a0 true) fd fc oc cn) := hD
      refine lv_aload_n hx hb d_G_mark_26 rfl (lv_at hl 0 rfl) ?_
      refine va_get (D := D) (ci := 0) (v := .ref (hs 9)) (C := R_G) (T := F_G) (N := 12) hx hb ht in_G hown hK hP 0 rfl rfl 8 (by decide) (ht _ wm_63) (fun _ h9 => h9) rfl d_G_mark_27 ?_
      refine lv_aload_n hx hb d_G_mark_30 rfl (lv_at hl 0 rfl) ?_
      refine va_get (D := D) (ci := 0) (v := .int (nI fc)) (C := R_G) (T := F_G) (N := 12) hx hb ht in_G hown hK hP 0 rfl rfl 9 (by decide) (ht _ wm_64) (fun _ h9 => h9) rfl d_G_mark_31 ?_
      refine lv_iload_n hx hb d_G_mark_34 rfl (lv_at hl 1 rfl) ?_
      refine nx_iast hx hb hK hP hD hS 9 8 nI fd rfl rfl fc a0 (by omega) (by decide) d_G_mark_35 (fun H locs hP hD hS => ?_)
      have hP : va_P D cl_all (gw_G ca hs rt wd ob ln kd qt df (va_up mk a0 true) (va_up fd fc a0) fc oc cn) H := hP
      have hD : va_D (gx_A hs 10) (gw_G ca hs rt wd ob ln kd qt df (va_up mk a0 true) (va_up fd fc a0) fc oc cn) := hD
      refine lv_aload_n hx hb d_G_mark_36 rfl (lv_at hl 0 rfl) ?_
      refine lv_dup hx hb d_G_mark_37 rfl ?_
      refine va_get (D := D) (ci := 0) (v := .int (nI fc)) (C := R_G) (T := F_G) (N := 12) hx hb ht in_G hown hK hP 0 rfl rfl 9 (by decide) (ht _ wm_64) (fun _ h9 => h9) rfl d_G_mark_38 ?_
      refine lv_iconst (v := nI 1) hx hb d_G_mark_41 (by decide +kernel) ?_
      refine nx_iadd hx hb d_G_mark_42 ?_
      refine va_put (D := D) (ci := 0) (v := .int (nI (fc + 1))) (ty := .int) (C := R_G) (T := F_G) (N := 12) hx hb ht in_G t_G t_G_ok n_G_ne hown hK hP hD hS 0 rfl rfl 9 (by decide) (ht _ wm_64) (fun _ h9 => h9) rfl (by decide +kernel) rfl rfl (Nat.le_of_ble_eq_true rfl) d_G_mark_43 (fun H locs hP hD hS => ?_)
      have hP : va_P D cl_all (gw_G ca hs rt wd ob ln kd qt df (va_up mk a0 true) (va_up fd fc a0) (fc + 1) oc cn) H := hP
      have hD : va_D (gx_A hs 10) (gw_G ca hs rt wd ob ln kd qt df (va_up mk a0 true) (va_up fd fc a0) (fc + 1) oc cn) := hD
      refine hret 46 ls _ _ _ d_G_mark_46 hP hS ?_ ?_
      · exact gw_G_adr.trans gw_G_adr.symm
      · exact ⟨rfl, Or.inr ⟨h6, rfl⟩⟩

set_option maxHeartbeats 4000000 in
set_option maxRecDepth 100000 in
theorem c_G_lookAt_in (l : Launch) (D : va_G) (ca : Nat → ClassId) (hs : Nat → Nat) (rt : Nat → Int32) (wd : Nat → Int32) (ob : Nat → Nat) (ln : Nat → Nat) (kd : Nat → Nat) (qt : Nat → Bool) (df : Nat → Bool) (mk : Nat → Bool) (fd : Nat → Nat) (fc : Nat) (oc : Nat) (cn : Nat) (hov : iv_o ob ln kd) (hk : ∀ b, b < 16 → kd b < 34) (P : Int32 → Prop) (hmi : mk_i ob kd mk df P) (hfi : fi_I ob mk fd fc) (i : Nat) (hi : i < 512) : Met l y_G_lookAt (Cond.code y_G_lookAt b_G_lookAt 4 none :: wa_all) (rm_d 2) (va_Pc [.ref (hs 0), .int (nI (4096 + i))] (gx_I D cl_all (ty_G ca) (gw_G ca hs rt wd ob ln kd qt df mk fd fc oc cn))) (gx_Q D cl_all (gx_A hs 10) (gw_G ca hs rt wd ob ln kd qt df mk fd fc oc cn) (fun v w' => v = none ∧ ∃ (df2 mk2 : Nat → Bool) (fd2 : Nat → Nat) (fc2 : Nat), w' = gw_G ca hs rt wd ob ln kd qt df2 mk2 fd2 fc2 oc cn ∧ mk_i ob kd mk2 df2 (fun v => P v ∨ v = nI (4096 + i)) ∧ fi_I ob mk2 fd2 fc2 ∧ fc ≤ fc2 ∧ ∀ i, i < fc → fd2 i = fd i)) 0 0 (gx_A hs 10) := by
  refine gx_mutV (by decide) (Nat.le_of_ble_eq_true rfl) gw_G_in ?_
  intro p e s m args below meth c ls Q hx hb hml ht hown hret hP hK hD hS hl
  have hl : lv_has ls 4 [(0, .ref (hs 0)), (1, .int (nI (4096 + i)))] := hl
  have hown : s.vm.findClass R_G = some m.cls := hown
  have hP : va_P D cl_all (gw_G ca hs rt wd ob ln kd qt df mk fd fc oc cn) s.heap := hP
  refine lv_iload_n hx hb d_G_lookAt_0 rfl (lv_at hl 1 rfl) ?_
  refine gx_cS (n := 1) (own := R_G) (As := [.int (nI (4096 + i))]) (rest := []) ⟨hx, hb, hml, hown, ht⟩ hg_all (c_G_isAddress l (nI (4096 + i))) wm_110 wm_111 wm_34 wm_112 ⟨rfl, by decide, by decide, by decide +kernel⟩ rfl ⟨rfl, rfl⟩ ⟨by decide, by decide⟩ ⟨by decide, by decide⟩ hl.1 rfl (Nat.le_of_ble_eq_true rfl) d_G_lookAt_1 ?_
  refine nx_if_ne_b (tgt := 8) hx hb d_G_lookAt_4 (by decide) (fun h4 => ?_) (fun h4 => ?_)
  · skip
    refine lv_aload_n hx hb d_G_lookAt_8 rfl (lv_at hl 0 rfl) ?_
    refine lv_iload_n hx hb d_G_lookAt_9 rfl (lv_at hl 1 rfl) ?_
    refine gx_cV (n := 1) (q0 := 0) (ci := 0) (q := (R_G, F_G, 12)) (C := R_G) (own := R_G) (As := [.int (nI (4096 + i))]) (rest := []) ⟨hx, hb, hml, hown, ht⟩ hg_all (c_G_startAt_in l D ca hs (rt) (wd) (ob) (ln) (kd) (qt) (df) (mk) (fd) (fc) (oc) (cn) i hi) wm_113 wm_114 wm_4 wm_34 wm_115 ⟨rfl, by decide, by decide, by decide +kernel⟩ rfl ⟨rfl, rfl⟩ ⟨by decide, by decide⟩ ⟨by decide, by decide⟩ hK hP hD rfl rfl rfl hl.1 rfl (Nat.le_of_ble_eq_true rfl) d_G_lookAt_10 ?_
    rcases zs_ca (ob i) with ⟨hc, e9⟩ | ⟨p0, hc, e9⟩
    · skip
      refine nx_top e9 ?_
      refine lv_istore_n (lv' := [(2, .int (-1)), (0, .ref (hs 0)), (1, .int (nI (4096 + i)))]) hx hb d_G_lookAt_13 rfl hl (by decide) rfl (fun ls hl => ?_)
      refine lv_iload_n hx hb d_G_lookAt_14 rfl (lv_at hl 2 rfl) ?_
      refine lv_sipush (v := nI 4096) hx hb d_G_lookAt_15 (by decide +kernel) ?_
      refine nx_isub hx hb d_G_lookAt_18 (by omega) ?_
      refine nx_top s4_e ?_
      refine lv_bipush (v := nI 32) hx hb d_G_lookAt_19 (by decide +kernel) ?_
      refine nx_idiv hx hb d_G_lookAt_21 (by omega) (by omega) (by omega) ?_
      refine lv_istore_n (lv' := [(3, .int (nI (i / 32))), (2, .int (-1)), (0, .ref (hs 0)), (1, .int (nI (4096 + i)))]) hx hb d_G_lookAt_22 rfl hl (by decide) rfl (fun ls hl => ?_)
      refine lv_iload_n hx hb d_G_lookAt_23 rfl (lv_at hl 1 rfl) ?_
      refine lv_iconst (v := -1) hx hb d_G_lookAt_24 (by decide +kernel) ?_
      refine lv_icmp_eq (tgt := 36) hx hb d_G_lookAt_25 (by decide) (fun _ => ?_) (fun h => absurd rfl h)
      refine lv_aload_n hx hb d_G_lookAt_36 rfl (lv_at hl 2 rfl) ?_
      refine va_get (D := D) (ci := 0) (v := .ref (hs 2)) (C := R_G) (T := F_G) (N := 12) hx hb ht in_G hown hK hP 0 rfl rfl 1 (by decide) (ht _ wm_56) (fun _ h9 => h9) rfl d_G_lookAt_37 ?_
      refine lv_iload_n hx hb d_G_lookAt_40 rfl (lv_at hl 0 rfl) ?_
      refine nx_iald hx hb hK hP 2 1 nI kd rfl rfl (i / 32) (by omega) (by decide) d_G_lookAt_41 ?_
      refine nx_if_ne (tgt := 52) hx hb d_G_lookAt_42 (by decide) (by have := hk (i / 32) (by omega); omega) (fun h42 => ?_) (fun h42 => ?_)
      · skip
        refine hret 52 ls _ _ _ d_G_lookAt_52 hP hS ?_ ?_
        · exact gw_G_adr.trans gw_G_adr.symm
        · exact ⟨rfl, _, _, _, _, rfl, mk_no hmi ((oa_i ob hi).trans hc) (fun b hb => h42 (by have := hb.2.2.1; rwa [(ad_i hi).2] at this)), hfi, Nat.le_refl _, fun _ _ => rfl⟩
      · skip
        refine lv_aload_n hx hb d_G_lookAt_45 rfl (lv_at hl 2 rfl) ?_
        refine va_get (D := D) (ci := 0) (v := .ref (hs 3)) (C := R_G) (T := F_G) (N := 12) hx hb ht in_G hown hK hP 0 rfl rfl 2 (by decide) (ht _ wm_57) (fun _ h9 => h9) rfl d_G_lookAt_46 ?_
        refine lv_iload_n hx hb d_G_lookAt_49 rfl (lv_at hl 0 rfl) ?_
        refine lv_iconst (v := zb_e true) hx hb d_G_lookAt_50 (by decide +kernel) ?_
        refine nx_zast hx hb hK hP hD hS 3 2 df rfl rfl (i / 32) true (by omega) (by decide) d_G_lookAt_51 (fun H locs hP hD hS => ?_)
        have hP : va_P D cl_all (gw_G ca hs rt wd ob ln kd qt (va_up df (i / 32) true) mk fd fc oc cn) H := hP
        have hD : va_D (gx_A hs 10) (gw_G ca hs rt wd ob ln kd qt (va_up df (i / 32) true) mk fd fc oc cn) := hD
        refine hret 52 ls _ _ _ d_G_lookAt_52 hP hS ?_ ?_
        · exact gw_G_adr.trans gw_G_adr.symm
        · exact ⟨rfl, _, _, _, _, rfl, (by have := mk_dbt hmi (ad_i hi).1 (by rw [(ad_i hi).2]; exact hc) (by rw [(ad_i hi).2]; exact h42); rwa [(ad_i hi).2] at this), hfi, Nat.le_refl _, fun _ _ => rfl⟩
    · skip
      obtain ⟨hp, hpo, -, hpe, -⟩ := iv_st hov hi hc
      refine nx_top e9 ?_
      refine lv_istore_n (lv' := [(2, .int (nI p0)), (0, .ref (hs 0)), (1, .int (nI (4096 + i)))]) hx hb d_G_lookAt_13 rfl hl (by decide) rfl (fun ls hl => ?_)
      refine lv_iload_n hx hb d_G_lookAt_14 rfl (lv_at hl 2 rfl) ?_
      refine lv_sipush (v := nI 4096) hx hb d_G_lookAt_15 (by decide +kernel) ?_
      refine nx_isub hx hb d_G_lookAt_18 (by omega) ?_
      refine nx_top s4_e ?_
      refine lv_bipush (v := nI 32) hx hb d_G_lookAt_19 (by decide +kernel) ?_
      refine nx_idiv hx hb d_G_lookAt_21 (by omega) (by omega) (by omega) ?_
      refine lv_istore_n (lv' := [(3, .int (nI (i / 32))), (2, .int (nI p0)), (0, .ref (hs 0)), (1, .int (nI (4096 + i)))]) hx hb d_G_lookAt_22 rfl hl (by decide) rfl (fun ls hl => ?_)
      refine lv_iload_n hx hb d_G_lookAt_23 rfl (lv_at hl 1 rfl) ?_
      refine lv_iconst (v := -1) hx hb d_G_lookAt_24 (by decide +kernel) ?_
      refine lv_icmp_eq (tgt := 36) hx hb d_G_lookAt_25 (by decide) (fun h => absurd h (zn_m1 (by omega))) (fun _ => ?_)
      refine lv_aload_n hx hb d_G_lookAt_28 rfl (lv_at hl 2 rfl) ?_
      refine lv_iload_n hx hb d_G_lookAt_29 rfl (lv_at hl 1 rfl) ?_
      refine gx_cM (n := 1) (q0 := 0) (ci := 0) (q := (R_G, F_G, 12)) (C := R_G) (own := R_G) (As := [.int (nI p0)]) (rest := []) ⟨hx, hb, hml, hown, ht⟩ hg_all (c_G_mark l D ca hs (rt) (wd) (ob) (ln) (kd) (qt) (df) (mk) (fd) (fc) (oc) (cn) (p0) (by omega) (fi_le hfi) (fun hm => fi_lt hfi (by omega) hpe hm)) wm_116 wm_117 wm_5 wm_34 wm_118 ⟨rfl, by decide, by decide, by decide +kernel⟩ rfl ⟨rfl, rfl⟩ ⟨by decide, by decide⟩ ⟨by decide, by decide⟩ hK hP hD hS (fun _ h => h) rfl rfl rfl hl.1 rfl (Nat.le_of_ble_eq_true rfl) d_G_lookAt_30 (fun v w' H locs hZ hP hD hS _ _ => ?_)
      obtain ⟨rfl, hZ⟩ := hZ
      rcases hZ with ⟨hm, rfl⟩ | ⟨hm, rfl⟩
      · skip
        have hP : va_P D cl_all (gw_G ca hs rt wd ob ln kd qt df mk fd fc oc cn) H := hP
        have hD : va_D (gx_A hs 10) (gw_G ca hs rt wd ob ln kd qt df mk fd fc oc cn) := hD
        refine lv_goto (tgt := 52) hx hb d_G_lookAt_33 (by decide) ?_
        refine hret 52 ls _ _ _ d_G_lookAt_52 hP hS ?_ ?_
        · exact gw_G_adr.trans gw_G_adr.symm
        · exact ⟨rfl, _, _, _, _, rfl, mk_had hmi ((oa_i ob hi).trans hc) hm, hfi, Nat.le_refl _, fun _ _ => rfl⟩
      · skip
        have hP : va_P D cl_all (gw_G ca hs rt wd ob ln kd qt df (va_up mk p0 true) (va_up fd fc p0) (fc + 1) oc cn) H := hP
        have hD : va_D (gx_A hs 10) (gw_G ca hs rt wd ob ln kd qt df (va_up mk p0 true) (va_up fd fc p0) (fc + 1) oc cn) := hD
        refine lv_goto (tgt := 52) hx hb d_G_lookAt_33 (by decide) ?_
        refine hret 52 ls _ _ _ d_G_lookAt_52 hP hS ?_ ?_
        · exact gw_G_adr.trans gw_G_adr.symm
        · exact ⟨rfl, _, _, _, _, rfl, mk_hit hmi ((oa_i ob hi).trans hc), fi_up hfi (by omega) hpe hpo hm, by omega, fun j hj => va_up_ne _ _ (by omega)⟩
  · skip
    rw [(ad_i hi).1] at h4
    cases h4

set_option maxHeartbeats 4000000 in
set_option maxRecDepth 100000 in
theorem c_G_lookAt_out (l : Launch) (D : va_G) (ca : Nat → ClassId) (hs : Nat → Nat) (rt : Nat → Int32) (wd : Nat → Int32) (ob : Nat → Nat) (ln : Nat → Nat) (kd : Nat → Nat) (qt : Nat → Bool) (df : Nat → Bool) (mk : Nat → Bool) (fd : Nat → Nat) (fc : Nat) (oc : Nat) (cn : Nat) (hov : iv_o ob ln kd) (hk : ∀ b, b < 16 → kd b < 34) (P : Int32 → Prop) (hmi : mk_i ob kd mk df P) (hfi : fi_I ob mk fd fc) (w : Int32) (hw : ad_b w = false) : Met l y_G_lookAt (Cond.code y_G_lookAt b_G_lookAt 4 none :: wa_all) (rm_d 2) (va_Pc [.ref (hs 0), .int (w)] (gx_I D cl_all (ty_G ca) (gw_G ca hs rt wd ob ln kd qt df mk fd fc oc cn))) (gx_Q D cl_all (gx_A hs 10) (gw_G ca hs rt wd ob ln kd qt df mk fd fc oc cn) (fun v w' => v = none ∧ ∃ (df2 mk2 : Nat → Bool) (fd2 : Nat → Nat) (fc2 : Nat), w' = gw_G ca hs rt wd ob ln kd qt df2 mk2 fd2 fc2 oc cn ∧ mk_i ob kd mk2 df2 (fun v => P v ∨ v = w) ∧ fi_I ob mk2 fd2 fc2 ∧ fc ≤ fc2 ∧ ∀ i, i < fc → fd2 i = fd i)) 0 0 (gx_A hs 10) := by
  refine gx_mutV (by decide) (Nat.le_of_ble_eq_true rfl) gw_G_in ?_
  intro p e s m args below meth c ls Q hx hb hml ht hown hret hP hK hD hS hl
  have hl : lv_has ls 4 [(0, .ref (hs 0)), (1, .int (w))] := hl
  have hown : s.vm.findClass R_G = some m.cls := hown
  have hP : va_P D cl_all (gw_G ca hs rt wd ob ln kd qt df mk fd fc oc cn) s.heap := hP
  refine lv_iload_n hx hb d_G_lookAt_0 rfl (lv_at hl 1 rfl) ?_
  refine gx_cS (n := 1) (own := R_G) (As := [.int (w)]) (rest := []) ⟨hx, hb, hml, hown, ht⟩ hg_all (c_G_isAddress l (w)) wm_110 wm_111 wm_34 wm_112 ⟨rfl, by decide, by decide, by decide +kernel⟩ rfl ⟨rfl, rfl⟩ ⟨by decide, by decide⟩ ⟨by decide, by decide⟩ hl.1 rfl (Nat.le_of_ble_eq_true rfl) d_G_lookAt_1 ?_
  refine nx_if_ne_b (tgt := 8) hx hb d_G_lookAt_4 (by decide) (fun h4 => ?_) (fun h4 => ?_)
  · skip
    rw [hw] at h4
    cases h4
  · skip
    refine hret 7 ls _ _ _ d_G_lookAt_7 hP hS ?_ ?_
    · exact gw_G_adr.trans gw_G_adr.symm
    · exact ⟨rfl, _, _, _, _, rfl, mk_na hmi hw, hfi, Nat.le_refl _, fun _ _ => rfl⟩

theorem c_G_lookAt (l : Launch) (D : va_G) (ca : Nat → ClassId) (hs : Nat → Nat) (rt : Nat → Int32) (wd : Nat → Int32) (ob : Nat → Nat) (ln : Nat → Nat) (kd : Nat → Nat) (qt : Nat → Bool) (df : Nat → Bool) (mk : Nat → Bool) (fd : Nat → Nat) (fc : Nat) (oc : Nat) (cn : Nat) (hov : iv_o ob ln kd) (hk : ∀ b, b < 16 → kd b < 34) (P : Int32 → Prop) (hmi : mk_i ob kd mk df P) (hfi : fi_I ob mk fd fc) (w : Int32) : Met l y_G_lookAt (Cond.code y_G_lookAt b_G_lookAt 4 none :: wa_all) (rm_d 2) (va_Pc [.ref (hs 0), .int w] (gx_I D cl_all (ty_G ca) (gw_G ca hs rt wd ob ln kd qt df mk fd fc oc cn))) (gx_Q D cl_all (gx_A hs 10) (gw_G ca hs rt wd ob ln kd qt df mk fd fc oc cn) (fun v w' => v = none ∧ ∃ (df2 mk2 : Nat → Bool) (fd2 : Nat → Nat) (fc2 : Nat), w' = gw_G ca hs rt wd ob ln kd qt df2 mk2 fd2 fc2 oc cn ∧ mk_i ob kd mk2 df2 (fun v => P v ∨ v = w) ∧ fi_I ob mk2 fd2 fc2 ∧ fc ≤ fc2 ∧ ∀ i, i < fc → fd2 i = fd i)) 0 0 (gx_A hs 10) := by
  cases hw : ad_b w with
  | false => exact c_G_lookAt_out l D ca hs rt wd ob ln kd qt df mk fd fc oc cn hov hk P hmi hfi w hw
  | true =>
    obtain ⟨hi, e⟩ := ad_l hw
    have h := c_G_lookAt_in l D ca hs rt wd ob ln kd qt df mk fd fc oc cn hov hk P hmi hfi (ad_x w) hi
    rw [← e] at h
    exact h
