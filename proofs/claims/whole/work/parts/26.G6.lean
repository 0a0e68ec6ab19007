/-! the class: collecting, allocating where there is room -/
theorem co_lt {ob ln kd : Nat → Nat} (ho : iv_o ob ln kd) (mk : Nat → Bool) {i : Nat} (hi : i < 512) : co_ob ob mk i < 513 := by
  have := iv_lt ho hi
  unfold co_ob
  split <;> omega
theorem co_cle (ob : Nat → Nat) (mk : Nat → Bool) : iv_c (co_ob ob mk) ≤ iv_c ob := cn_mono 512 (fun i _ h => cl_t.mpr (co_ob_p.mp (cl_t.mp h)).1)
theorem sk_s {ob kd : Nat → Nat} {n a : Nat} (hn : n ≤ 16) (h : rm_ok ob kd n a) : va_up kd (a / 32) (sz_f n) = st_kd kd a (ss_n n) n := by
  obtain ⟨r1, r2, r3, r4, r5⟩ := h
  have hs := sz_is n
  have hz := ss_s hn
  rcases r5 with ⟨s1, s2, s3, s4⟩ | ⟨s1, -⟩
  · rw [hz] at r1 s3 ⊢
    funext b
    unfold va_up st_kd
    by_cases e : b = a / 32
    · rw [if_pos e, if_pos (show a / 32 ≤ b ∧ 32 * b < a + sz_f n by omega), if_pos hn]
    · rw [if_neg e, if_neg (show ¬ (a / 32 ≤ b ∧ 32 * b < a + sz_f n) from fun q => e (by rcases hs with z | z | z | z <;> rw [z] at s3 q <;> omega))]
  · exact absurd hn s1
theorem sd_s {ob kd : Nat → Nat} {df : Nat → Bool} {n a : Nat} (hn : n ≤ 16) (h : rm_ok ob kd n a) : va_up df (a / 32) false = st_df df a (ss_n n) := by
  obtain ⟨r1, r2, r3, r4, r5⟩ := h
  have hs := sz_is n
  have hz := ss_s hn
  rcases r5 with ⟨s1, s2, s3, s4⟩ | ⟨s1, -⟩
  · rw [hz] at r1 s3 ⊢
    funext b
    unfold va_up st_df
    by_cases e : b = a / 32
    · rw [if_pos e, if_pos (show a / 32 ≤ b ∧ 32 * b < a + sz_f n by omega)]
    · rw [if_neg e, if_neg (show ¬ (a / 32 ≤ b ∧ 32 * b < a + sz_f n) from fun q => e (by rcases hs with z | z | z | z <;> rw [z] at s3 q <;> omega))]
  · exact absurd hn s1
theorem sk_g {kd : Nat → Nat} {n a z : Nat} (hn : ¬ n ≤ 16) : st_kd kd a z 17 = st_kd kd a z n := by
  funext b
  unfold st_kd
  rw [if_neg (show ¬ 17 ≤ 16 by decide), if_neg hn]
theorem rm_g {ob kd : Nat → Nat} {df : Nat → Bool} {n : Nat} {f : Bool} (hn : ¬ n ≤ 16) : rm_n ob kd df n f = 32 * rm_b kd df f (bk_f n) := by
  unfold rm_n
  rw [if_neg hn]
set_option maxHeartbeats 4000000 in
set_option maxRecDepth 100000 in
theorem c_G_collectNow (l : Launch) (D : va_G) (ca : Nat → ClassId) (hs : Nat → Nat) (rt : Nat → Int32) (wd : Nat → Int32) (ob : Nat → Nat) (ln : Nat → Nat) (kd : Nat → Nat) (qt : Nat → Bool) (df : Nat → Bool) (mk : Nat → Bool) (fd : Nat → Nat) (fc : Nat) (oc : Nat) (cn : Nat) (hv : iv_a ob ln kd wd oc) : Met l y_G_collectNow (Cond.code y_G_collectNow b_G_collectNow 2 (some .int) :: wa_all) (rm_d 5) (va_Pc [.ref (hs 0)] (gx_I D cl_all (ty_G ca) (gw_G ca hs rt wd ob ln kd qt df mk fd fc oc cn))) (gx_Q D cl_all (gx_A hs 10) (gw_G ca hs rt wd ob ln kd qt df mk fd fc oc cn) (fun v w' => v = some (.int (nI (oc - iv_c (co_ob ob (co_mk rt wd ob ln qt))))) ∧ ∃ (fd2 : Nat → Nat) (fc2 : Nat), w' = gw_G ca hs rt (co_wd wd ob (co_mk rt wd ob ln qt)) (co_ob ob (co_mk rt wd ob ln qt)) ln (co_kd kd (co_ob ob (co_mk rt wd ob ln qt))) qt (co_df rt wd ob ln kd qt) (co_mk rt wd ob ln qt) fd2 fc2 (iv_c (co_ob ob (co_mk rt wd ob ln qt))) (cn + 1))) 0 0 (gx_A hs 10) := by
  refine gx_mutI (by decide) (Nat.le_of_ble_eq_true rfl) gw_G_in ?_
  intro p e s m args below meth c ls Q hx hb hml ht hown hret hP hK hD hS hl
  have hl : lv_has ls 2 [(0, .ref (hs 0))] := hl
  have hown : s.vm.findClass R_G = some m.cls := hown
  have hk : ∀ b, b < 16 → kd b < 34 := fun b hb => iv_kl hv.2.1 hb
  have hcle : iv_c (co_ob ob (co_mk rt wd ob ln qt)) ≤ oc := by rw [hv.2.2.2.2.2]; exact co_cle _ _
  have hP : va_P D cl_all (gw_G ca hs rt wd ob ln kd qt df mk fd fc oc cn) s.heap := hP
  refine lv_aload_n hx hb d_G_collectNow_0 rfl (lv_at hl 0 rfl) ?_
  refine lv_dup hx hb d_G_collectNow_1 rfl ?_
  refine va_get (D := D) (ci := 0) (v := .int (nI cn)) (C := R_G) (T := F_G) (N := 12) hx hb ht in_G hown hK hP 0 rfl rfl 11 (by decide) (ht _ wm_66) (fun _ h9 => h9) rfl d_G_collectNow_2 ?_
  refine lv_iconst (v := nI 1) hx hb d_G_collectNow_5 (by decide +kernel) ?_
  refine nx_iadd hx hb d_G_collectNow_6 ?_
  refine va_put (D := D) (ci := 0) (v := .int (nI (cn + 1))) (ty := .int) (C := R_G) (T := F_G) (N := 12) hx hb ht in_G t_G t_G_ok n_G_ne hown hK hP hD hS 0 rfl rfl 11 (by decide) (ht _ wm_66) (fun _ h9 => h9) rfl (by decide +kernel) rfl rfl (Nat.le_of_ble_eq_true rfl) d_G_collectNow_7 (fun H locs hP hD hS => ?_)
  have hP : va_P D cl_all (gw_G ca hs rt wd ob ln kd qt df mk fd fc oc (cn + 1)) H := hP
  have hD : va_D (gx_A hs 10) (gw_G ca hs rt wd ob ln kd qt df mk fd fc oc (cn + 1)) := hD
  refine lv_aload_n hx hb d_G_collectNow_10 rfl (lv_at hl 0 rfl) ?_
  refine gx_cM (n := 0) (q0 := 0) (ci := 0) (q := (R_G, F_G, 12)) (C := R_G) (own := R_G) (As := []) (rest := []) ⟨hx, hb, hml, hown, ht⟩ hg_all (c_G_forgetMarks l D ca hs (rt) (wd) (ob) (ln) (kd) (qt) (df) (mk) (fd) (fc) (oc) (cn + 1)) wm_101 wm_102 wm_1 wm_34 wm_103 ⟨rfl, by decide, by decide, by decide +kernel⟩ rfl ⟨rfl, rfl⟩ ⟨by decide, by decide⟩ ⟨by decide, by decide⟩ hK hP hD hS (fun _ h => h) rfl rfl rfl hl.1 rfl (Nat.le_of_ble_eq_true rfl) d_G_collectNow_11 (fun v w' H locs hZ hP hD hS _ _ => ?_)
  obtain ⟨rfl, rfl⟩ := hZ
  have hP : va_P D cl_all (gw_G ca hs rt wd ob ln kd qt ((fun _ : Nat => false)) ((fun _ : Nat => false)) fd 0 oc (cn + 1)) H := hP
  have hD : va_D (gx_A hs 10) (gw_G ca hs rt wd ob ln kd qt ((fun _ : Nat => false)) ((fun _ : Nat => false)) fd 0 oc (cn + 1)) := hD
  refine lv_aload_n hx hb d_G_collectNow_14 rfl (lv_at hl 0 rfl) ?_
  refine gx_cM (n := 0) (q0 := 0) (ci := 0) (q := (R_G, F_G, 12)) (C := R_G) (own := R_G) (As := []) (rest := []) ⟨hx, hb, hml, hown, ht⟩ hg_all (c_G_lookAtRoots l D ca hs (rt) (wd) (ob) (ln) (kd) (qt) ((fun _ : Nat => false)) ((fun _ : Nat => false)) (fd) (0) (oc) (cn + 1) hv.1 hk (fun _ => False) (mk_i0 ob kd) (fi_0 ob fd)) wm_104 wm_105 wm_2 wm_34 wm_106 ⟨rfl, by decide, by decide, by decide +kernel⟩ rfl ⟨rfl, rfl⟩ ⟨by decide, by decide⟩ ⟨by decide, by decide⟩ hK hP hD hS (fun _ h => h) rfl rfl rfl hl.1 rfl (Nat.le_of_ble_eq_true rfl) d_G_collectNow_15 (fun v w' H locs hZ hP hD hS _ _ => ?_)
  obtain ⟨rfl, df3, mk3, fd3, fc3, rfl, hmi3, hfi3, -, -⟩ := hZ
  have hP : va_P D cl_all (gw_G ca hs rt wd ob ln kd qt df3 mk3 fd3 fc3 oc (cn + 1)) H := hP
  have hD : va_D (gx_A hs 10) (gw_G ca hs rt wd ob ln kd qt df3 mk3 fd3 fc3 oc (cn + 1)) := hD
  refine lv_aload_n hx hb d_G_collectNow_18 rfl (lv_at hl 0 rfl) ?_
  refine gx_cM (n := 0) (q0 := 0) (ci := 0) (q := (R_G, F_G, 12)) (C := R_G) (own := R_G) (As := []) (rest := []) ⟨hx, hb, hml, hown, ht⟩ hg_all (c_G_lookAtMarkedObjects l D ca hs (rt) (wd) (ob) (ln) (kd) (qt) (df3) (mk3) (fd3) (fc3) (oc) (cn + 1) hv.1 hk (fun v => False ∨ ∃ j, j < 8 ∧ v = rt j) hmi3 hfi3 (fun w hw => hw.elim False.elim (fun ⟨j, h1, h2⟩ => Or.inl ⟨j, h1, h2⟩)) (fun r hr => Or.inr ⟨r, hr, rfl⟩)) wm_119 wm_120 wm_6 wm_34 wm_121 ⟨rfl, by decide, by decide, by decide +kernel⟩ rfl ⟨rfl, rfl⟩ ⟨by decide, by decide⟩ ⟨by decide, by decide⟩ hK hP hD hS (fun _ h => h) rfl rfl rfl hl.1 rfl (Nat.le_of_ble_eq_true rfl) d_G_collectNow_19 (fun v w' H locs hZ hP hD hS _ _ => ?_)
  obtain ⟨rfl, fd4, fc4, rfl⟩ := hZ
  have hP : va_P D cl_all (gw_G ca hs rt wd ob ln kd qt (co_df rt wd ob ln kd qt) (co_mk rt wd ob ln qt) fd4 fc4 oc (cn + 1)) H := hP
  have hD : va_D (gx_A hs 10) (gw_G ca hs rt wd ob ln kd qt (co_df rt wd ob ln kd qt) (co_mk rt wd ob ln qt) fd4 fc4 oc (cn + 1)) := hD
  refine lv_aload_n hx hb d_G_collectNow_22 rfl (lv_at hl 0 rfl) ?_
  refine va_get (D := D) (ci := 0) (v := .int (nI oc)) (C := R_G) (T := F_G) (N := 12) hx hb ht in_G hown hK hP 0 rfl rfl 10 (by decide) (ht _ wm_65) (fun _ h9 => h9) rfl d_G_collectNow_23 ?_
  refine lv_istore_n (lv' := [(1, .int (nI oc)), (0, .ref (hs 0))]) hx hb d_G_collectNow_26 rfl hl (by decide) rfl (fun ls hl => ?_)
  refine lv_aload_n hx hb d_G_collectNow_27 rfl (lv_at hl 1 rfl) ?_
  refine gx_cM (n := 0) (q0 := 0) (ci := 0) (q := (R_G, F_G, 12)) (C := R_G) (own := R_G) (As := []) (rest := []) ⟨hx, hb, hml, hown, ht⟩ hg_all (c_G_giveUpUnmarkedObjects l D ca hs (rt) (wd) (ob) (ln) (kd) (qt) (co_df rt wd ob ln kd qt) (co_mk rt wd ob ln qt) (fd4) (fc4) (oc) (cn + 1) hv.1 hv.2.2.2.2.2) wm_125 wm_126 wm_8 wm_34 wm_127 ⟨rfl, by decide, by decide, by decide +kernel⟩ rfl ⟨rfl, rfl⟩ ⟨by decide, by decide⟩ ⟨by decide, by decide⟩ hK hP hD hS (fun _ h => h) rfl rfl rfl hl.1 rfl (Nat.le_of_ble_eq_true rfl) d_G_collectNow_28 (fun v w' H locs hZ hP hD hS _ _ => ?_)
  obtain ⟨rfl, rfl⟩ := hZ
  have hP : va_P D cl_all (gw_G ca hs rt (co_wd wd ob (co_mk rt wd ob ln qt)) (co_ob ob (co_mk rt wd ob ln qt)) ln kd qt (co_df rt wd ob ln kd qt) (co_mk rt wd ob ln qt) fd4 fc4 (iv_c (co_ob ob (co_mk rt wd ob ln qt))) (cn + 1)) H := hP
  have hD : va_D (gx_A hs 10) (gw_G ca hs rt (co_wd wd ob (co_mk rt wd ob ln qt)) (co_ob ob (co_mk rt wd ob ln qt)) ln kd qt (co_df rt wd ob ln kd qt) (co_mk rt wd ob ln qt) fd4 fc4 (iv_c (co_ob ob (co_mk rt wd ob ln qt))) (cn + 1)) := hD
  refine lv_aload_n hx hb d_G_collectNow_31 rfl (lv_at hl 1 rfl) ?_
  refine gx_cM (n := 0) (q0 := 0) (ci := 0) (q := (R_G, F_G, 12)) (C := R_G) (own := R_G) (As := []) (rest := []) ⟨hx, hb, hml, hown, ht⟩ hg_all (c_G_freeBlocksWithoutObjects l D ca hs (rt) (co_wd wd ob (co_mk rt wd ob ln qt)) (co_ob ob (co_mk rt wd ob ln qt)) (ln) (kd) (qt) (co_df rt wd ob ln kd qt) (co_mk rt wd ob ln qt) (fd4) (fc4) (iv_c (co_ob ob (co_mk rt wd ob ln qt))) (cn + 1) (fun i hi => co_lt hv.1 _ hi)) wm_202 wm_203 wm_10 wm_34 wm_204 ⟨rfl, by decide, by decide, by decide +kernel⟩ rfl ⟨rfl, rfl⟩ ⟨by decide, by decide⟩ ⟨by decide, by decide⟩ hK hP hD hS (fun _ h => h) rfl rfl rfl hl.1 rfl (Nat.le_of_ble_eq_true rfl) d_G_collectNow_32 (fun v w' H locs hZ hP hD hS _ _ => ?_)
  obtain ⟨rfl, rfl⟩ := hZ
  have hP : va_P D cl_all (gw_G ca hs rt (co_wd wd ob (co_mk rt wd ob ln qt)) (co_ob ob (co_mk rt wd ob ln qt)) ln (co_kd kd (co_ob ob (co_mk rt wd ob ln qt))) qt (co_df rt wd ob ln kd qt) (co_mk rt wd ob ln qt) fd4 fc4 (iv_c (co_ob ob (co_mk rt wd ob ln qt))) (cn + 1)) H := hP
  have hD : va_D (gx_A hs 10) (gw_G ca hs rt (co_wd wd ob (co_mk rt wd ob ln qt)) (co_ob ob (co_mk rt wd ob ln qt)) ln (co_kd kd (co_ob ob (co_mk rt wd ob ln qt))) qt (co_df rt wd ob ln kd qt) (co_mk rt wd ob ln qt) fd4 fc4 (iv_c (co_ob ob (co_mk rt wd ob ln qt))) (cn + 1)) := hD
  refine lv_iload_n hx hb d_G_collectNow_35 rfl (lv_at hl 0 rfl) ?_
  refine lv_aload_n hx hb d_G_collectNow_36 rfl (lv_at hl 1 rfl) ?_
  refine va_get (D := D) (ci := 0) (v := .int (nI (iv_c (co_ob ob (co_mk rt wd ob ln qt))))) (C := R_G) (T := F_G) (N := 12) hx hb ht in_G hown hK hP 0 rfl rfl 10 (by decide) (ht _ wm_65) (fun _ h9 => h9) rfl d_G_collectNow_37 ?_
  refine nx_isub hx hb d_G_collectNow_40 (by omega) ?_
  refine hret 41 ls (nI (oc - (iv_c (co_ob ob (co_mk rt wd ob ln qt))))) _ _ _ d_G_collectNow_41 hP hS ?_ ?_
  · exact gw_G_adr.trans gw_G_adr.symm
  · exact ⟨rfl, _, _, rfl⟩

set_option maxHeartbeats 4000000 in
set_option maxRecDepth 100000 in
theorem c_G_collect (l : Launch) (D : va_G) (ca : Nat → ClassId) (hs : Nat → Nat) (rt : Nat → Int32) (wd : Nat → Int32) (ob : Nat → Nat) (ln : Nat → Nat) (kd : Nat → Nat) (qt : Nat → Bool) (df : Nat → Bool) (mk : Nat → Bool) (fd : Nat → Nat) (fc : Nat) (oc : Nat) (cn : Nat) (hv : iv_a ob ln kd wd oc) : Met l y_G_collect (Cond.code y_G_collect b_G_collect 1 (some .int) :: wa_all) (rm_d 6) (va_Pc [.ref (hs 0)] (gx_I D cl_all (ty_G ca) (gw_G ca hs rt wd ob ln kd qt df mk fd fc oc cn))) (gx_Q D cl_all (gx_A hs 10) (gw_G ca hs rt wd ob ln kd qt df mk fd fc oc cn) (fun v w' => v = some (.int (nI (oc - iv_c (co_ob ob (co_mk rt wd ob ln qt))))) ∧ ∃ (fd2 : Nat → Nat) (fc2 : Nat), w' = gw_G ca hs rt (co_wd wd ob (co_mk rt wd ob ln qt)) (co_ob ob (co_mk rt wd ob ln qt)) ln (co_kd kd (co_ob ob (co_mk rt wd ob ln qt))) qt (co_df rt wd ob ln kd qt) (co_mk rt wd ob ln qt) fd2 fc2 (iv_c (co_ob ob (co_mk rt wd ob ln qt))) (cn + 1))) 0 0 (gx_A hs 10) := by
  refine gx_mutI (by decide) (Nat.le_of_ble_eq_true rfl) gw_G_in ?_
  intro p e s m args below meth c ls Q hx hb hml ht hown hret hP hK hD hS hl
  have hl : lv_has ls 1 [(0, .ref (hs 0))] := hl
  have hown : s.vm.findClass R_G = some m.cls := hown
  have hP : va_P D cl_all (gw_G ca hs rt wd ob ln kd qt df mk fd fc oc cn) s.heap := hP
  refine lv_aload_n hx hb d_G_collect_0 rfl (lv_at hl 0 rfl) ?_
  refine gx_cM (n := 0) (q0 := 0) (ci := 0) (q := (R_G, F_G, 12)) (C := R_G) (own := R_G) (As := []) (rest := []) ⟨hx, hb, hml, hown, ht⟩ hg_all (c_G_collectNow l D ca hs (rt) (wd) (ob) (ln) (kd) (qt) (df) (mk) (fd) (fc) (oc) (cn) hv) wm_98 wm_99 wm_0 wm_34 wm_100 ⟨rfl, by decide, by decide, by decide +kernel⟩ rfl ⟨rfl, rfl⟩ ⟨by decide, by decide⟩ ⟨by decide, by decide⟩ hK hP hD hS (fun _ h => h) rfl rfl rfl hl.1 rfl (Nat.le_of_ble_eq_true rfl) d_G_collect_1 (fun v w' H locs hZ hP hD hS _ _ => ?_)
  obtain ⟨rfl, fd2, fc2, rfl⟩ := hZ
  have hP : va_P D cl_all (gw_G ca hs rt (co_wd wd ob (co_mk rt wd ob ln qt)) (co_ob ob (co_mk rt wd ob ln qt)) ln (co_kd kd (co_ob ob (co_mk rt wd ob ln qt))) qt (co_df rt wd ob ln kd qt) (co_mk rt wd ob ln qt) fd2 fc2 (iv_c (co_ob ob (co_mk rt wd ob ln qt))) (cn + 1)) H := hP
  have hD : va_D (gx_A hs 10) (gw_G ca hs rt (co_wd wd ob (co_mk rt wd ob ln qt)) (co_ob ob (co_mk rt wd ob ln qt)) ln (co_kd kd (co_ob ob (co_mk rt wd ob ln qt))) qt (co_df rt wd ob ln kd qt) (co_mk rt wd ob ln qt) fd2 fc2 (iv_c (co_ob ob (co_mk rt wd ob ln qt))) (cn + 1)) := hD
  refine hret 4 ls (nI (oc - iv_c (co_ob ob (co_mk rt wd ob ln qt)))) _ _ _ d_G_collect_4 hP hS ?_ ?_
  · exact gw_G_adr.trans gw_G_adr.symm
  · exact ⟨rfl, _, _, rfl⟩

set_option maxHeartbeats 4000000 in
set_option maxRecDepth 100000 in
theorem c_G_allocate_1s (l : Launch) (D : va_G) (ca : Nat → ClassId) (hs : Nat → Nat) (rt : Nat → Int32) (wd : Nat → Int32) (ob : Nat → Nat) (ln : Nat → Nat) (kd : Nat → Nat) (qt : Nat → Bool) (df : Nat → Bool) (mk : Nat → Bool) (fd : Nat → Nat) (fc : Nat) (oc : Nat) (cn : Nat) (hv : iv_a ob ln kd wd oc) (n : Nat) (sl : Bool) (hn1 : 1 ≤ n) (hn2 : n ≤ 128) (hsm : n ≤ 16) (hr0 : rm_n ob kd df n false < 512) : Met l y_G_allocate (Cond.code y_G_allocate b_G_allocate 4 (some .int) :: wa_all) (rm_d 6) (va_Pc [.ref (hs 0), .int (nI n), .int (zb_e sl)] (gx_I D cl_all (ty_G ca) (gw_G ca hs rt wd ob ln kd qt df mk fd fc oc cn))) (gx_Q D cl_all (gx_A hs 10) (gw_G ca hs rt wd ob ln kd qt df mk fd fc oc cn) (fun v w' => v = some (.int (nI (4096 + rm_n (ob) (kd) (df) n false))) ∧ w' = gw_G ca hs rt wd (st_ob (ob) (rm_n (ob) (kd) (df) n false) (ss_n n)) (va_up ln (rm_n (ob) (kd) (df) n false) (ss_n n)) (st_kd (kd) (rm_n (ob) (kd) (df) n false) (ss_n n) n) (va_up qt (rm_n (ob) (kd) (df) n false) sl) (st_df (df) (rm_n (ob) (kd) (df) n false) (ss_n n)) mk fd fc (oc + 1) cn)) 0 0 (gx_A hs 10) := by
  refine gx_mutI (by decide) (Nat.le_of_ble_eq_true rfl) gw_G_in ?_
  intro p e s m args below meth c ls Q hx hb hml ht hown hret hP hK hD hS hl
  have hl : lv_has ls 4 [(0, .ref (hs 0)), (1, .int (nI n)), (2, .int (zb_e sl))] := hl
  have hown : s.vm.findClass R_G = some m.cls := hown
  have hk : ∀ b, b < 16 → kd b < 34 := fun b hb => iv_kl hv.2.1 hb
  have ho : ∀ i, i < 512 → ob i < 513 := fun i hi => iv_lt hv.1 hi
  have hP : va_P D cl_all (gw_G ca hs rt wd ob ln kd qt df mk fd fc oc cn) s.heap := hP
  refine lv_iload_n hx hb d_G_allocate_0 rfl (lv_at hl 1 rfl) ?_
  refine lv_iconst (v := nI 1) hx hb d_G_allocate_1 (by decide +kernel) ?_
  refine nx_icmp_lt (tgt := 12) hx hb d_G_allocate_2 (by decide) (by omega) (by omega) (fun h2 => ?_) (fun h2 => ?_)
  · skip
    omega
  · skip
    refine lv_iload_n hx hb d_G_allocate_5 rfl (lv_at hl 1 rfl) ?_
    refine lv_sipush (v := nI 128) hx hb d_G_allocate_6 (by decide +kernel) ?_
    refine nx_icmp_le (tgt := 22) hx hb d_G_allocate_9 (by decide) (by omega) (by omega) (fun h9 => ?_) (fun h9 => ?_)
    · skip
      refine lv_aload_n hx hb d_G_allocate_22 rfl (lv_at hl 0 rfl) ?_
      refine lv_iload_n hx hb d_G_allocate_23 rfl (lv_at hl 1 rfl) ?_
      refine lv_iconst (v := zb_e false) hx hb d_G_allocate_24 (by decide +kernel) ?_
      refine gx_cV (n := 2) (q0 := 0) (ci := 0) (q := (R_G, F_G, 12)) (C := R_G) (own := R_G) (As := [.int (nI n), .int (zb_e false)]) (rest := []) ⟨hx, hb, hml, hown, ht⟩ hg_all (c_G_findRoom l D ca hs (rt) (wd) (ob) (ln) (kd) (qt) (df) (mk) (fd) (fc) (oc) (cn) (n) (by omega) (by omega) (false) (hk) (ho)) wm_253 wm_254 wm_13 wm_34 wm_255 ⟨rfl, by decide, by decide, by decide +kernel⟩ rfl ⟨rfl, rfl⟩ ⟨by decide, by decide⟩ ⟨by decide, by decide⟩ hK hP hD rfl rfl rfl hl.1 rfl (Nat.le_of_ble_eq_true rfl) d_G_allocate_25 ?_
      have hok := rm_fact hv.1 hv.2.2.1 hn1 hr0
      have hok1 := hok.1
      have hok3 := hok.2.2.1
      rw [ss_s hsm] at hok1 hok3
      refine nx_top (show lr_e (rm_n (ob) (kd) (df) n false) = nI (rm_n (ob) (kd) (df) n false) from if_pos hr0) ?_
      refine lv_istore_n (lv' := [(3, .int (nI (rm_n (ob) (kd) (df) n false))), (0, .ref (hs 0)), (1, .int (nI n)), (2, .int (zb_e sl))]) hx hb d_G_allocate_28 rfl hl (by decide) rfl (fun ls hl => ?_)
      refine lv_iload_n hx hb d_G_allocate_29 rfl (lv_at hl 0 rfl) ?_
      refine lv_iconst (v := -1) hx hb d_G_allocate_30 (by decide +kernel) ?_
      refine lv_icmp_ne (tgt := 46) hx hb d_G_allocate_31 (by decide) (fun _ => ?_) (fun h => absurd h (zn_m1 (by omega)))
      refine lv_iload_n hx hb d_G_allocate_46 rfl (lv_at hl 0 rfl) ?_
      refine lv_iconst (v := -1) hx hb d_G_allocate_47 (by decide +kernel) ?_
      refine lv_icmp_ne (tgt := 58) hx hb d_G_allocate_48 (by decide) (fun _ => ?_) (fun h => absurd h (zn_m1 (by omega)))
      refine lv_iload_n hx hb d_G_allocate_58 rfl (lv_at hl 0 rfl) ?_
      refine lv_iconst (v := -1) hx hb d_G_allocate_59 (by decide +kernel) ?_
      refine lv_icmp_ne (tgt := 73) hx hb d_G_allocate_60 (by decide) (fun _ => ?_) (fun h => absurd h (zn_m1 (by omega)))
      refine lv_iload_n hx hb d_G_allocate_73 rfl (lv_at hl 2 rfl) ?_
      refine lv_bipush (v := nI 16) hx hb d_G_allocate_74 (by decide +kernel) ?_
      refine nx_icmp_gt (tgt := 92) hx hb d_G_allocate_76 (by decide) (by omega) (by omega) (fun h76 => ?_) (fun h76 => ?_)
      · skip
        omega
      · skip
        refine lv_aload_n hx hb d_G_allocate_79 rfl (lv_at hl 1 rfl) ?_
        refine lv_iload_n hx hb d_G_allocate_80 rfl (lv_at hl 0 rfl) ?_
        refine lv_iload_n hx hb d_G_allocate_81 rfl (lv_at hl 2 rfl) ?_
        refine gx_cS (n := 1) (own := R_G) (As := [.int (nI n)]) (rest := [.int (nI (rm_n (ob) (kd) (df) n false)), .ref (hs 0)]) ⟨hx, hb, hml, hown, ht⟩ hg_all (c_G_slotSize l (n) (by omega)) wm_262 wm_263 wm_34 wm_264 ⟨rfl, by decide, by decide, by decide +kernel⟩ rfl ⟨rfl, rfl⟩ ⟨by decide, by decide⟩ ⟨by decide, by decide⟩ hl.1 rfl (Nat.le_of_ble_eq_true rfl) d_G_allocate_82 ?_
        refine lv_iload_n hx hb d_G_allocate_85 rfl (lv_at hl 3 rfl) ?_
        refine gx_cM (n := 3) (q0 := 0) (ci := 0) (q := (R_G, F_G, 12)) (C := R_G) (own := R_G) (As := [.int (nI (rm_n (ob) (kd) (df) n false)), .int (nI (sz_f (n))), .int (zb_e sl)]) (rest := []) ⟨hx, hb, hml, hown, ht⟩ hg_all (c_G_placeSmall l D ca hs (rt) (wd) (ob) (ln) (kd) (qt) (df) (mk) (fd) (fc) (oc) (cn) (rm_n (ob) (kd) (df) n false) (sz_f (n)) sl (by omega) (by omega)) wm_282 wm_283 wm_16 wm_34 wm_284 ⟨rfl, by decide, by decide, by decide +kernel⟩ rfl ⟨rfl, rfl⟩ ⟨by decide, by decide⟩ ⟨by decide, by decide⟩ hK hP hD hS (fun _ h => h) rfl rfl rfl hl.1 rfl (Nat.le_of_ble_eq_true rfl) d_G_allocate_86 (fun v w' H locs hZ hP hD hS _ _ => ?_)
        obtain ⟨rfl, rfl⟩ := hZ
        have hP : va_P D cl_all (gw_G ca hs rt wd (st_ob (ob) (rm_n (ob) (kd) (df) n false) (sz_f (n))) (va_up (ln) (rm_n (ob) (kd) (df) n false) (sz_f (n))) (va_up (kd) ((rm_n (ob) (kd) (df) n false) / 32) (sz_f (n))) (va_up (qt) (rm_n (ob) (kd) (df) n false) sl) (va_up (df) ((rm_n (ob) (kd) (df) n false) / 32) false) mk fd fc (oc + 1) cn) H := hP
        have hD : va_D (gx_A hs 10) (gw_G ca hs rt wd (st_ob (ob) (rm_n (ob) (kd) (df) n false) (sz_f (n))) (va_up (ln) (rm_n (ob) (kd) (df) n false) (sz_f (n))) (va_up (kd) ((rm_n (ob) (kd) (df) n false) / 32) (sz_f (n))) (va_up (qt) (rm_n (ob) (kd) (df) n false) sl) (va_up (df) ((rm_n (ob) (kd) (df) n false) / 32) false) mk fd fc (oc + 1) cn) := hD
        refine lv_goto (tgt := 102) hx hb d_G_allocate_89 (by decide) ?_
        rw [sk_s hsm hok, sd_s hsm hok, ← ss_s hsm] at hP hD
        have hP : va_P D cl_all (gw_G ca hs rt wd (st_ob (ob) (rm_n (ob) (kd) (df) n false) (ss_n n)) (va_up ln (rm_n (ob) (kd) (df) n false) (ss_n n)) (st_kd (kd) (rm_n (ob) (kd) (df) n false) (ss_n n) n) (va_up qt (rm_n (ob) (kd) (df) n false) sl) (st_df (df) (rm_n (ob) (kd) (df) n false) (ss_n n)) mk fd fc (oc + 1) cn) H := hP
        have hD : va_D (gx_A hs 10) (gw_G ca hs rt wd (st_ob (ob) (rm_n (ob) (kd) (df) n false) (ss_n n)) (va_up ln (rm_n (ob) (kd) (df) n false) (ss_n n)) (st_kd (kd) (rm_n (ob) (kd) (df) n false) (ss_n n) n) (va_up qt (rm_n (ob) (kd) (df) n false) sl) (st_df (df) (rm_n (ob) (kd) (df) n false) (ss_n n)) mk fd fc (oc + 1) cn) := hD
        refine lv_sipush (v := nI 4096) hx hb d_G_allocate_102 (by decide +kernel) ?_
        refine lv_iload_n hx hb d_G_allocate_105 rfl (lv_at hl 0 rfl) ?_
        refine nx_iadd hx hb d_G_allocate_106 ?_
        refine hret 107 ls (nI (4096 + (rm_n (ob) (kd) (df) n false))) _ _ _ d_G_allocate_107 hP hS ?_ ?_
        · exact gw_G_adr.trans gw_G_adr.symm
        · exact ⟨by rfl, by rfl⟩
    · skip
      omega

set_option maxHeartbeats 4000000 in
set_option maxRecDepth 100000 in
theorem c_G_allocate_1l (l : Launch) (D : va_G) (ca : Nat → ClassId) (hs : Nat → Nat) (rt : Nat → Int32) (wd : Nat → Int32) (ob : Nat → Nat) (ln : Nat → Nat) (kd : Nat → Nat) (qt : Nat → Bool) (df : Nat → Bool) (mk : Nat → Bool) (fd : Nat → Nat) (fc : Nat) (oc : Nat) (cn : Nat) (hv : iv_a ob ln kd wd oc) (n : Nat) (sl : Bool) (hn1 : 1 ≤ n) (hn2 : n ≤ 128) (hsm : ¬ n ≤ 16) (hr0 : rm_n ob kd df n false < 512) : Met l y_G_allocate (Cond.code y_G_allocate b_G_allocate 4 (some .int) :: wa_all) (rm_d 6) (va_Pc [.ref (hs 0), .int (nI n), .int (zb_e sl)] (gx_I D cl_all (ty_G ca) (gw_G ca hs rt wd ob ln kd qt df mk fd fc oc cn))) (gx_Q D cl_all (gx_A hs 10) (gw_G ca hs rt wd ob ln kd qt df mk fd fc oc cn) (fun v w' => v = some (.int (nI (4096 + (32 * rm_b (kd) (df) false (bk_f n))))) ∧ w' = gw_G ca hs rt wd (st_ob (ob) (32 * rm_b (kd) (df) false (bk_f n)) (ss_n n)) (va_up ln (32 * rm_b (kd) (df) false (bk_f n)) (ss_n n)) (st_kd (kd) (32 * rm_b (kd) (df) false (bk_f n)) (ss_n n) n) (va_up qt (32 * rm_b (kd) (df) false (bk_f n)) sl) (st_df (df) (32 * rm_b (kd) (df) false (bk_f n)) (ss_n n)) mk fd fc (oc + 1) cn)) 0 0 (gx_A hs 10) := by
  refine gx_mutI (by decide) (Nat.le_of_ble_eq_true rfl) gw_G_in ?_
  intro p e s m args below meth c ls Q hx hb hml ht hown hret hP hK hD hS hl
  have hl : lv_has ls 4 [(0, .ref (hs 0)), (1, .int (nI n)), (2, .int (zb_e sl))] := hl
  have hown : s.vm.findClass R_G = some m.cls := hown
  have hk : ∀ b, b < 16 → kd b < 34 := fun b hb => iv_kl hv.2.1 hb
  have ho : ∀ i, i < 512 → ob i < 513 := fun i hi => iv_lt hv.1 hi
  have hP : va_P D cl_all (gw_G ca hs rt wd ob ln kd qt df mk fd fc oc cn) s.heap := hP
  refine lv_iload_n hx hb d_G_allocate_0 rfl (lv_at hl 1 rfl) ?_
  refine lv_iconst (v := nI 1) hx hb d_G_allocate_1 (by decide +kernel) ?_
  refine nx_icmp_lt (tgt := 12) hx hb d_G_allocate_2 (by decide) (by omega) (by omega) (fun h2 => ?_) (fun h2 => ?_)
  · skip
    omega
  · skip
    refine lv_iload_n hx hb d_G_allocate_5 rfl (lv_at hl 1 rfl) ?_
    refine lv_sipush (v := nI 128) hx hb d_G_allocate_6 (by decide +kernel) ?_
    refine nx_icmp_le (tgt := 22) hx hb d_G_allocate_9 (by decide) (by omega) (by omega) (fun h9 => ?_) (fun h9 => ?_)
    · skip
      refine lv_aload_n hx hb d_G_allocate_22 rfl (lv_at hl 0 rfl) ?_
      refine lv_iload_n hx hb d_G_allocate_23 rfl (lv_at hl 1 rfl) ?_
      refine lv_iconst (v := zb_e false) hx hb d_G_allocate_24 (by decide +kernel) ?_
      refine gx_cV (n := 2) (q0 := 0) (ci := 0) (q := (R_G, F_G, 12)) (C := R_G) (own := R_G) (As := [.int (nI n), .int (zb_e false)]) (rest := []) ⟨hx, hb, hml, hown, ht⟩ hg_all (c_G_findRoom l D ca hs (rt) (wd) (ob) (ln) (kd) (qt) (df) (mk) (fd) (fc) (oc) (cn) (n) (by omega) (by omega) (false) (hk) (ho)) wm_253 wm_254 wm_13 wm_34 wm_255 ⟨rfl, by decide, by decide, by decide +kernel⟩ rfl ⟨rfl, rfl⟩ ⟨by decide, by decide⟩ ⟨by decide, by decide⟩ hK hP hD rfl rfl rfl hl.1 rfl (Nat.le_of_ble_eq_true rfl) d_G_allocate_25 ?_
      have hok := rm_fact hv.1 hv.2.2.1 hn1 hr0
      rw [rm_g hsm] at hok
      have hok1 := hok.1
      have hok3 := hok.2.2.1
      rw [ss_g hsm] at hok1 hok3
      refine nx_top (show lr_e (rm_n (ob) (kd) (df) n false) = nI (32 * rm_b (kd) (df) false (bk_f n)) by rw [← rm_g hsm]; exact if_pos hr0) ?_
      refine lv_istore_n (lv' := [(3, .int (nI (32 * rm_b (kd) (df) false (bk_f n)))), (0, .ref (hs 0)), (1, .int (nI n)), (2, .int (zb_e sl))]) hx hb d_G_allocate_28 rfl hl (by decide) rfl (fun ls hl => ?_)
      refine lv_iload_n hx hb d_G_allocate_29 rfl (lv_at hl 0 rfl) ?_
      refine lv_iconst (v := -1) hx hb d_G_allocate_30 (by decide +kernel) ?_
      refine lv_icmp_ne (tgt := 46) hx hb d_G_allocate_31 (by decide) (fun _ => ?_) (fun h => absurd h (zn_m1 (by omega)))
      refine lv_iload_n hx hb d_G_allocate_46 rfl (lv_at hl 0 rfl) ?_
      refine lv_iconst (v := -1) hx hb d_G_allocate_47 (by decide +kernel) ?_
      refine lv_icmp_ne (tgt := 58) hx hb d_G_allocate_48 (by decide) (fun _ => ?_) (fun h => absurd h (zn_m1 (by omega)))
      refine lv_iload_n hx hb d_G_allocate_58 rfl (lv_at hl 0 rfl) ?_
      refine lv_iconst (v := -1) hx hb d_G_allocate_59 (by decide +kernel) ?_
      refine lv_icmp_ne (tgt := 73) hx hb d_G_allocate_60 (by decide) (fun _ => ?_) (fun h => absurd h (zn_m1 (by omega)))
      refine lv_iload_n hx hb d_G_allocate_73 rfl (lv_at hl 2 rfl) ?_
      refine lv_bipush (v := nI 16) hx hb d_G_allocate_74 (by decide +kernel) ?_
      refine nx_icmp_gt (tgt := 92) hx hb d_G_allocate_76 (by decide) (by omega) (by omega) (fun h76 => ?_) (fun h76 => ?_)
      · skip
        refine lv_aload_n hx hb d_G_allocate_92 rfl (lv_at hl 1 rfl) ?_
        refine lv_iload_n hx hb d_G_allocate_93 rfl (lv_at hl 0 rfl) ?_
        refine lv_iload_n hx hb d_G_allocate_94 rfl (lv_at hl 2 rfl) ?_
        refine gx_cS (n := 1) (own := R_G) (As := [.int (nI n)]) (rest := [.int (nI (32 * rm_b (kd) (df) false (bk_f n))), .ref (hs 0)]) ⟨hx, hb, hml, hown, ht⟩ hg_all (c_G_blocksFor l (n) (by omega)) wm_256 wm_257 wm_34 wm_258 ⟨rfl, by decide, by decide, by decide +kernel⟩ rfl ⟨rfl, rfl⟩ ⟨by decide, by decide⟩ ⟨by decide, by decide⟩ hl.1 rfl (Nat.le_of_ble_eq_true rfl) d_G_allocate_95 ?_
        refine lv_iload_n hx hb d_G_allocate_98 rfl (lv_at hl 3 rfl) ?_
        refine gx_cM (n := 3) (q0 := 0) (ci := 0) (q := (R_G, F_G, 12)) (C := R_G) (own := R_G) (As := [.int (nI (32 * rm_b (kd) (df) false (bk_f n))), .int (nI (bk_f (n))), .int (zb_e sl)]) (rest := []) ⟨hx, hb, hml, hown, ht⟩ hg_all (c_G_placeLarge l D ca hs (rt) (wd) (ob) (ln) (kd) (qt) (df) (mk) (fd) (fc) (oc) (cn) (rm_b (kd) (df) false (bk_f n)) (bk_f (n)) sl (by unfold bk_f; omega) (by omega)) wm_291 wm_292 wm_19 wm_34 wm_293 ⟨rfl, by decide, by decide, by decide +kernel⟩ rfl ⟨rfl, rfl⟩ ⟨by decide, by decide⟩ ⟨by decide, by decide⟩ hK hP hD hS (fun _ h => h) rfl rfl rfl hl.1 rfl (Nat.le_of_ble_eq_true rfl) d_G_allocate_99 (fun v w' H locs hZ hP hD hS _ _ => ?_)
        obtain ⟨rfl, rfl⟩ := hZ
        have hP : va_P D cl_all (gw_G ca hs rt wd (st_ob (ob) (32 * rm_b (kd) (df) false (bk_f n)) (bk_f (n) * 32)) (va_up (ln) (32 * rm_b (kd) (df) false (bk_f n)) (bk_f (n) * 32)) (st_kd (kd) (32 * rm_b (kd) (df) false (bk_f n)) (bk_f (n) * 32) 17) (va_up (qt) (32 * rm_b (kd) (df) false (bk_f n)) sl) (st_df (df) (32 * rm_b (kd) (df) false (bk_f n)) (bk_f (n) * 32)) mk fd fc (oc + 1) cn) H := hP
        have hD : va_D (gx_A hs 10) (gw_G ca hs rt wd (st_ob (ob) (32 * rm_b (kd) (df) false (bk_f n)) (bk_f (n) * 32)) (va_up (ln) (32 * rm_b (kd) (df) false (bk_f n)) (bk_f (n) * 32)) (st_kd (kd) (32 * rm_b (kd) (df) false (bk_f n)) (bk_f (n) * 32) 17) (va_up (qt) (32 * rm_b (kd) (df) false (bk_f n)) sl) (st_df (df) (32 * rm_b (kd) (df) false (bk_f n)) (bk_f (n) * 32)) mk fd fc (oc + 1) cn) := hD
        rw [sk_g hsm, ← ss_g hsm] at hP hD
        have hP : va_P D cl_all (gw_G ca hs rt wd (st_ob (ob) (32 * rm_b (kd) (df) false (bk_f n)) (ss_n n)) (va_up ln (32 * rm_b (kd) (df) false (bk_f n)) (ss_n n)) (st_kd (kd) (32 * rm_b (kd) (df) false (bk_f n)) (ss_n n) n) (va_up qt (32 * rm_b (kd) (df) false (bk_f n)) sl) (st_df (df) (32 * rm_b (kd) (df) false (bk_f n)) (ss_n n)) mk fd fc (oc + 1) cn) H := hP
        have hD : va_D (gx_A hs 10) (gw_G ca hs rt wd (st_ob (ob) (32 * rm_b (kd) (df) false (bk_f n)) (ss_n n)) (va_up ln (32 * rm_b (kd) (df) false (bk_f n)) (ss_n n)) (st_kd (kd) (32 * rm_b (kd) (df) false (bk_f n)) (ss_n n) n) (va_up qt (32 * rm_b (kd) (df) false (bk_f n)) sl) (st_df (df) (32 * rm_b (kd) (df) false (bk_f n)) (ss_n n)) mk fd fc (oc + 1) cn) := hD
        refine lv_sipush (v := nI 4096) hx hb d_G_allocate_102 (by decide +kernel) ?_
        refine lv_iload_n hx hb d_G_allocate_105 rfl (lv_at hl 0 rfl) ?_
        refine nx_iadd hx hb d_G_allocate_106 ?_
        refine hret 107 ls (nI (4096 + (32 * rm_b (kd) (df) false (bk_f n)))) _ _ _ d_G_allocate_107 hP hS ?_ ?_
        · exact gw_G_adr.trans gw_G_adr.symm
        · exact ⟨by rfl, by rfl⟩
      · skip
        omega
    · skip
      omega

set_option maxHeartbeats 4000000 in
set_option maxRecDepth 100000 in
theorem c_G_allocate_2s (l : Launch) (D : va_G) (ca : Nat → ClassId) (hs : Nat → Nat) (rt : Nat → Int32) (wd : Nat → Int32) (ob : Nat → Nat) (ln : Nat → Nat) (kd : Nat → Nat) (qt : Nat → Bool) (df : Nat → Bool) (mk : Nat → Bool) (fd : Nat → Nat) (fc : Nat) (oc : Nat) (cn : Nat) (hv : iv_a ob ln kd wd oc) (n : Nat) (sl : Bool) (hn1 : 1 ≤ n) (hn2 : n ≤ 128) (hsm : n ≤ 16) (hr0 : ¬ rm_n ob kd df n false < 512) (hr1 : rm_n (co_ob ob (co_mk rt wd ob ln qt)) (co_kd kd (co_ob ob (co_mk rt wd ob ln qt))) (co_df rt wd ob ln kd qt) n false < 512) : Met l y_G_allocate (Cond.code y_G_allocate b_G_allocate 4 (some .int) :: wa_all) (rm_d 6) (va_Pc [.ref (hs 0), .int (nI n), .int (zb_e sl)] (gx_I D cl_all (ty_G ca) (gw_G ca hs rt wd ob ln kd qt df mk fd fc oc cn))) (gx_Q D cl_all (gx_A hs 10) (gw_G ca hs rt wd ob ln kd qt df mk fd fc oc cn) (fun v w' => v = some (.int (nI (4096 + rm_n (co_ob ob (co_mk rt wd ob ln qt)) (co_kd kd (co_ob ob (co_mk rt wd ob ln qt))) (co_df rt wd ob ln kd qt) n false))) ∧ ∃ (fd2 : Nat → Nat) (fc2 : Nat), w' = gw_G ca hs rt (co_wd wd ob (co_mk rt wd ob ln qt)) (st_ob (co_ob ob (co_mk rt wd ob ln qt)) (rm_n (co_ob ob (co_mk rt wd ob ln qt)) (co_kd kd (co_ob ob (co_mk rt wd ob ln qt))) (co_df rt wd ob ln kd qt) n false) (ss_n n)) (va_up ln (rm_n (co_ob ob (co_mk rt wd ob ln qt)) (co_kd kd (co_ob ob (co_mk rt wd ob ln qt))) (co_df rt wd ob ln kd qt) n false) (ss_n n)) (st_kd (co_kd kd (co_ob ob (co_mk rt wd ob ln qt))) (rm_n (co_ob ob (co_mk rt wd ob ln qt)) (co_kd kd (co_ob ob (co_mk rt wd ob ln qt))) (co_df rt wd ob ln kd qt) n false) (ss_n n) n) (va_up qt (rm_n (co_ob ob (co_mk rt wd ob ln qt)) (co_kd kd (co_ob ob (co_mk rt wd ob ln qt))) (co_df rt wd ob ln kd qt) n false) sl) (st_df (co_df rt wd ob ln kd qt) (rm_n (co_ob ob (co_mk rt wd ob ln qt)) (co_kd kd (co_ob ob (co_mk rt wd ob ln qt))) (co_df rt wd ob ln kd qt) n false) (ss_n n)) (co_mk rt wd ob ln qt) fd2 fc2 (iv_c (co_ob ob (co_mk rt wd ob ln qt)) + 1) (cn + 1))) 0 0 (gx_A hs 10) := by
  refine gx_mutI (by decide) (Nat.le_of_ble_eq_true rfl) gw_G_in ?_
  intro p e s m args below meth c ls Q hx hb hml ht hown hret hP hK hD hS hl
  have hl : lv_has ls 4 [(0, .ref (hs 0)), (1, .int (nI n)), (2, .int (zb_e sl))] := hl
  have hown : s.vm.findClass R_G = some m.cls := hown
  have hk : ∀ b, b < 16 → kd b < 34 := fun b hb => iv_kl hv.2.1 hb
  have ho : ∀ i, i < 512 → ob i < 513 := fun i hi => iv_lt hv.1 hi
  have hP : va_P D cl_all (gw_G ca hs rt wd ob ln kd qt df mk fd fc oc cn) s.heap := hP
  refine lv_iload_n hx hb d_G_allocate_0 rfl (lv_at hl 1 rfl) ?_
  refine lv_iconst (v := nI 1) hx hb d_G_allocate_1 (by decide +kernel) ?_
  refine nx_icmp_lt (tgt := 12) hx hb d_G_allocate_2 (by decide) (by omega) (by omega) (fun h2 => ?_) (fun h2 => ?_)
  · skip
    omega
  · skip
    refine lv_iload_n hx hb d_G_allocate_5 rfl (lv_at hl 1 rfl) ?_
    refine lv_sipush (v := nI 128) hx hb d_G_allocate_6 (by decide +kernel) ?_
    refine nx_icmp_le (tgt := 22) hx hb d_G_allocate_9 (by decide) (by omega) (by omega) (fun h9 => ?_) (fun h9 => ?_)
    · skip
      refine lv_aload_n hx hb d_G_allocate_22 rfl (lv_at hl 0 rfl) ?_
      refine lv_iload_n hx hb d_G_allocate_23 rfl (lv_at hl 1 rfl) ?_
      refine lv_iconst (v := zb_e false) hx hb d_G_allocate_24 (by decide +kernel) ?_
      refine gx_cV (n := 2) (q0 := 0) (ci := 0) (q := (R_G, F_G, 12)) (C := R_G) (own := R_G) (As := [.int (nI n), .int (zb_e false)]) (rest := []) ⟨hx, hb, hml, hown, ht⟩ hg_all (c_G_findRoom l D ca hs (rt) (wd) (ob) (ln) (kd) (qt) (df) (mk) (fd) (fc) (oc) (cn) (n) (by omega) (by omega) (false) (hk) (ho)) wm_253 wm_254 wm_13 wm_34 wm_255 ⟨rfl, by decide, by decide, by decide +kernel⟩ rfl ⟨rfl, rfl⟩ ⟨by decide, by decide⟩ ⟨by decide, by decide⟩ hK hP hD rfl rfl rfl hl.1 rfl (Nat.le_of_ble_eq_true rfl) d_G_allocate_25 ?_
      refine nx_top (show lr_e (rm_n (ob) (kd) (df) (n) false) = -1 from if_neg hr0) ?_
      refine lv_istore_n (lv' := [(3, .int (-1)), (0, .ref (hs 0)), (1, .int (nI n)), (2, .int (zb_e sl))]) hx hb d_G_allocate_28 rfl hl (by decide) rfl (fun ls hl => ?_)
      refine lv_iload_n hx hb d_G_allocate_29 rfl (lv_at hl 0 rfl) ?_
      refine lv_iconst (v := -1) hx hb d_G_allocate_30 (by decide +kernel) ?_
      refine lv_icmp_ne (tgt := 46) hx hb d_G_allocate_31 (by decide) (fun h => absurd rfl h) (fun _ => ?_)
      refine lv_aload_n hx hb d_G_allocate_34 rfl (lv_at hl 1 rfl) ?_
      refine gx_cM (n := 0) (q0 := 0) (ci := 0) (q := (R_G, F_G, 12)) (C := R_G) (own := R_G) (As := []) (rest := []) ⟨hx, hb, hml, hown, ht⟩ hg_all (c_G_collectNow l D ca hs (rt) (wd) (ob) (ln) (kd) (qt) (df) (mk) (fd) (fc) (oc) (cn) hv) wm_98 wm_99 wm_0 wm_34 wm_100 ⟨rfl, by decide, by decide, by decide +kernel⟩ rfl ⟨rfl, rfl⟩ ⟨by decide, by decide⟩ ⟨by decide, by decide⟩ hK hP hD hS (fun _ h => h) rfl rfl rfl hl.1 rfl (Nat.le_of_ble_eq_true rfl) d_G_allocate_35 (fun v w' H locs hZ hP hD hS _ _ => ?_)
      obtain ⟨rfl, fd2, fc2, rfl⟩ := hZ
      have hP : va_P D cl_all (gw_G ca hs rt (co_wd wd ob (co_mk rt wd ob ln qt)) (co_ob ob (co_mk rt wd ob ln qt)) ln (co_kd kd (co_ob ob (co_mk rt wd ob ln qt))) qt (co_df rt wd ob ln kd qt) (co_mk rt wd ob ln qt) fd2 fc2 (iv_c (co_ob ob (co_mk rt wd ob ln qt))) (cn + 1)) H := hP
      have hD : va_D (gx_A hs 10) (gw_G ca hs rt (co_wd wd ob (co_mk rt wd ob ln qt)) (co_ob ob (co_mk rt wd ob ln qt)) ln (co_kd kd (co_ob ob (co_mk rt wd ob ln qt))) qt (co_df rt wd ob ln kd qt) (co_mk rt wd ob ln qt) fd2 fc2 (iv_c (co_ob ob (co_mk rt wd ob ln qt))) (cn + 1)) := hD
      have hv2 := co_iv (co_mk rt wd ob ln qt) hv
      have hk : ∀ b, b < 16 → (co_kd kd (co_ob ob (co_mk rt wd ob ln qt))) b < 34 := fun b hb => iv_kl hv2.2.1 hb
      have ho : ∀ i, i < 512 → (co_ob ob (co_mk rt wd ob ln qt)) i < 513 := fun i hi => iv_lt hv2.1 hi
      refine lv_pop hx hb d_G_allocate_38 rfl ?_
      refine lv_aload_n hx hb d_G_allocate_39 rfl (lv_at hl 1 rfl) ?_
      refine lv_iload_n hx hb d_G_allocate_40 rfl (lv_at hl 2 rfl) ?_
      refine lv_iconst (v := zb_e false) hx hb d_G_allocate_41 (by decide +kernel) ?_
      refine gx_cV (n := 2) (q0 := 0) (ci := 0) (q := (R_G, F_G, 12)) (C := R_G) (own := R_G) (As := [.int (nI n), .int (zb_e false)]) (rest := []) ⟨hx, hb, hml, hown, ht⟩ hg_all (c_G_findRoom l D ca hs (rt) (co_wd wd ob (co_mk rt wd ob ln qt)) (co_ob ob (co_mk rt wd ob ln qt)) (ln) (co_kd kd (co_ob ob (co_mk rt wd ob ln qt))) (qt) (co_df rt wd ob ln kd qt) (co_mk rt wd ob ln qt) (fd2) (fc2) (iv_c (co_ob ob (co_mk rt wd ob ln qt))) (cn + 1) (n) (by omega) (by omega) (false) (hk) (ho)) wm_253 wm_254 wm_13 wm_34 wm_255 ⟨rfl, by decide, by decide, by decide +kernel⟩ rfl ⟨rfl, rfl⟩ ⟨by decide, by decide⟩ ⟨by decide, by decide⟩ hK hP hD rfl rfl rfl hl.1 rfl (Nat.le_of_ble_eq_true rfl) d_G_allocate_42 ?_
      have hok := rm_fact hv2.1 hv2.2.2.1 hn1 hr1
      have hok1 := hok.1
      have hok3 := hok.2.2.1
      rw [ss_s hsm] at hok1 hok3
      refine nx_top (show lr_e (rm_n (co_ob ob (co_mk rt wd ob ln qt)) (co_kd kd (co_ob ob (co_mk rt wd ob ln qt))) (co_df rt wd ob ln kd qt) n false) = nI (rm_n (co_ob ob (co_mk rt wd ob ln qt)) (co_kd kd (co_ob ob (co_mk rt wd ob ln qt))) (co_df rt wd ob ln kd qt) n false) from if_pos hr1) ?_
      refine lv_istore_n (lv' := [(3, .int (nI (rm_n (co_ob ob (co_mk rt wd ob ln qt)) (co_kd kd (co_ob ob (co_mk rt wd ob ln qt))) (co_df rt wd ob ln kd qt) n false))), (0, .ref (hs 0)), (1, .int (nI n)), (2, .int (zb_e sl))]) hx hb d_G_allocate_45 rfl hl (by decide) rfl (fun ls hl => ?_)
      refine lv_iload_n hx hb d_G_allocate_46 rfl (lv_at hl 0 rfl) ?_
      refine lv_iconst (v := -1) hx hb d_G_allocate_47 (by decide +kernel) ?_
      refine lv_icmp_ne (tgt := 58) hx hb d_G_allocate_48 (by decide) (fun _ => ?_) (fun h => absurd h (zn_m1 (by omega)))
      refine lv_iload_n hx hb d_G_allocate_58 rfl (lv_at hl 0 rfl) ?_
      refine lv_iconst (v := -1) hx hb d_G_allocate_59 (by decide +kernel) ?_
      refine lv_icmp_ne (tgt := 73) hx hb d_G_allocate_60 (by decide) (fun _ => ?_) (fun h => absurd h (zn_m1 (by omega)))
      refine lv_iload_n hx hb d_G_allocate_73 rfl (lv_at hl 2 rfl) ?_
      refine lv_bipush (v := nI 16) hx hb d_G_allocate_74 (by decide +kernel) ?_
      refine nx_icmp_gt (tgt := 92) hx hb d_G_allocate_76 (by decide) (by omega) (by omega) (fun h76 => ?_) (fun h76 => ?_)
      · skip
        omega
      · skip
        refine lv_aload_n hx hb d_G_allocate_79 rfl (lv_at hl 1 rfl) ?_
        refine lv_iload_n hx hb d_G_allocate_80 rfl (lv_at hl 0 rfl) ?_
        refine lv_iload_n hx hb d_G_allocate_81 rfl (lv_at hl 2 rfl) ?_
        refine gx_cS (n := 1) (own := R_G) (As := [.int (nI n)]) (rest := [.int (nI (rm_n (co_ob ob (co_mk rt wd ob ln qt)) (co_kd kd (co_ob ob (co_mk rt wd ob ln qt))) (co_df rt wd ob ln kd qt) n false)), .ref (hs 0)]) ⟨hx, hb, hml, hown, ht⟩ hg_all (c_G_slotSize l (n) (by omega)) wm_262 wm_263 wm_34 wm_264 ⟨rfl, by decide, by decide, by decide +kernel⟩ rfl ⟨rfl, rfl⟩ ⟨by decide, by decide⟩ ⟨by decide, by decide⟩ hl.1 rfl (Nat.le_of_ble_eq_true rfl) d_G_allocate_82 ?_
        refine lv_iload_n hx hb d_G_allocate_85 rfl (lv_at hl 3 rfl) ?_
        refine gx_cM (n := 3) (q0 := 0) (ci := 0) (q := (R_G, F_G, 12)) (C := R_G) (own := R_G) (As := [.int (nI (rm_n (co_ob ob (co_mk rt wd ob ln qt)) (co_kd kd (co_ob ob (co_mk rt wd ob ln qt))) (co_df rt wd ob ln kd qt) n false)), .int (nI (sz_f (n))), .int (zb_e sl)]) (rest := []) ⟨hx, hb, hml, hown, ht⟩ hg_all (c_G_placeSmall l D ca hs (rt) (co_wd wd ob (co_mk rt wd ob ln qt)) (co_ob ob (co_mk rt wd ob ln qt)) (ln) (co_kd kd (co_ob ob (co_mk rt wd ob ln qt))) (qt) (co_df rt wd ob ln kd qt) (co_mk rt wd ob ln qt) (fd2) (fc2) (iv_c (co_ob ob (co_mk rt wd ob ln qt))) (cn + 1) (rm_n (co_ob ob (co_mk rt wd ob ln qt)) (co_kd kd (co_ob ob (co_mk rt wd ob ln qt))) (co_df rt wd ob ln kd qt) n false) (sz_f (n)) sl (by omega) (by omega)) wm_282 wm_283 wm_16 wm_34 wm_284 ⟨rfl, by decide, by decide, by decide +kernel⟩ rfl ⟨rfl, rfl⟩ ⟨by decide, by decide⟩ ⟨by decide, by decide⟩ hK hP hD hS (fun _ h => h) rfl rfl rfl hl.1 rfl (Nat.le_of_ble_eq_true rfl) d_G_allocate_86 (fun v w' H locs hZ hP hD hS _ _ => ?_)
        obtain ⟨rfl, rfl⟩ := hZ
        have hP : va_P D cl_all (gw_G ca hs rt (co_wd wd ob (co_mk rt wd ob ln qt)) (st_ob (co_ob ob (co_mk rt wd ob ln qt)) (rm_n (co_ob ob (co_mk rt wd ob ln qt)) (co_kd kd (co_ob ob (co_mk rt wd ob ln qt))) (co_df rt wd ob ln kd qt) n false) (sz_f (n))) (va_up (ln) (rm_n (co_ob ob (co_mk rt wd ob ln qt)) (co_kd kd (co_ob ob (co_mk rt wd ob ln qt))) (co_df rt wd ob ln kd qt) n false) (sz_f (n))) (va_up (co_kd kd (co_ob ob (co_mk rt wd ob ln qt))) ((rm_n (co_ob ob (co_mk rt wd ob ln qt)) (co_kd kd (co_ob ob (co_mk rt wd ob ln qt))) (co_df rt wd ob ln kd qt) n false) / 32) (sz_f (n))) (va_up (qt) (rm_n (co_ob ob (co_mk rt wd ob ln qt)) (co_kd kd (co_ob ob (co_mk rt wd ob ln qt))) (co_df rt wd ob ln kd qt) n false) sl) (va_up (co_df rt wd ob ln kd qt) ((rm_n (co_ob ob (co_mk rt wd ob ln qt)) (co_kd kd (co_ob ob (co_mk rt wd ob ln qt))) (co_df rt wd ob ln kd qt) n false) / 32) false) (co_mk rt wd ob ln qt) fd2 fc2 (iv_c (co_ob ob (co_mk rt wd ob ln qt)) + 1) (cn + 1)) H := hP
        have hD : va_D (gx_A hs 10) (gw_G ca hs rt (co_wd wd ob (co_mk rt wd ob ln qt)) (st_ob (co_ob ob (co_mk rt wd ob ln qt)) (rm_n (co_ob ob (co_mk rt wd ob ln qt)) (co_kd kd (co_ob ob (co_mk rt wd ob ln qt))) (co_df rt wd ob ln kd qt) n false) (sz_f (n))) (va_up (ln) (rm_n (co_ob ob (co_mk rt wd ob ln qt)) (co_kd kd (co_ob ob (co_mk rt wd ob ln qt))) (co_df rt wd ob ln kd qt) n false) (sz_f (n))) (va_up (co_kd kd (co_ob ob (co_mk rt wd ob ln qt))) ((rm_n (co_ob ob (co_mk rt wd ob ln qt)) (co_kd kd (co_ob ob (co_mk rt wd ob ln qt))) (co_df rt wd ob ln kd qt) n false) / 32) (sz_f (n))) (va_up (qt) (rm_n (co_ob ob (co_mk rt wd ob ln qt)) (co_kd kd (co_ob ob (co_mk rt wd ob ln qt))) (co_df rt wd ob ln kd qt) n false) sl) (va_up (co_df rt wd ob ln kd qt) ((rm_n (co_ob ob (co_mk rt wd ob ln qt)) (co_kd kd (co_ob ob (co_mk rt wd ob ln qt))) (co_df rt wd ob ln kd qt) n false) / 32) false) (co_mk rt wd ob ln qt) fd2 fc2 (iv_c (co_ob ob (co_mk rt wd ob ln qt)) + 1) (cn + 1)) := hD
        refine lv_goto (tgt := 102) hx hb d_G_allocate_89 (by decide) ?_
        rw [sk_s hsm hok, sd_s hsm hok, ← ss_s hsm] at hP hD
        have hP : va_P D cl_all (gw_G ca hs rt (co_wd wd ob (co_mk rt wd ob ln qt)) (st_ob (co_ob ob (co_mk rt wd ob ln qt)) (rm_n (co_ob ob (co_mk rt wd ob ln qt)) (co_kd kd (co_ob ob (co_mk rt wd ob ln qt))) (co_df rt wd ob ln kd qt) n false) (ss_n n)) (va_up ln (rm_n (co_ob ob (co_mk rt wd ob ln qt)) (co_kd kd (co_ob ob (co_mk rt wd ob ln qt))) (co_df rt wd ob ln kd qt) n false) (ss_n n)) (st_kd (co_kd kd (co_ob ob (co_mk rt wd ob ln qt))) (rm_n (co_ob ob (co_mk rt wd ob ln qt)) (co_kd kd (co_ob ob (co_mk rt wd ob ln qt))) (co_df rt wd ob ln kd qt) n false) (ss_n n) n) (va_up qt (rm_n (co_ob ob (co_mk rt wd ob ln qt)) (co_kd kd (co_ob ob (co_mk rt wd ob ln qt))) (co_df rt wd ob ln kd qt) n false) sl) (st_df (co_df rt wd ob ln kd qt) (rm_n (co_ob ob (co_mk rt wd ob ln qt)) (co_kd kd (co_ob ob (co_mk rt wd ob ln qt))) (co_df rt wd ob ln kd qt) n false) (ss_n n)) (co_mk rt wd ob ln qt) fd2 fc2 (iv_c (co_ob ob (co_mk rt wd ob ln qt)) + 1) (cn + 1)) H := hP
        have hD : va_D (gx_A hs 10) (gw_G ca hs rt (co_wd wd ob (co_mk rt wd ob ln qt)) (st_ob (co_ob ob (co_mk rt wd ob ln qt)) (rm_n (co_ob ob (co_mk rt wd ob ln qt)) (co_kd kd (co_ob ob (co_mk rt wd ob ln qt))) (co_df rt wd ob ln kd qt) n false) (ss_n n)) (va_up ln (rm_n (co_ob ob (co_mk rt wd ob ln qt)) (co_kd kd (co_ob ob (co_mk rt wd ob ln qt))) (co_df rt wd ob ln kd qt) n false) (ss_n n)) (st_kd (co_kd kd (co_ob ob (co_mk rt wd ob ln qt))) (rm_n (co_ob ob (co_mk rt wd ob ln qt)) (co_kd kd (co_ob ob (co_mk rt wd ob ln qt))) (co_df rt wd ob ln kd qt) n false) (ss_n n) n) (va_up qt (rm_n (co_ob ob (co_mk rt wd ob ln qt)) (co_kd kd (co_ob ob (co_mk rt wd ob ln qt))) (co_df rt wd ob ln kd qt) n false) sl) (st_df (co_df rt wd ob ln kd qt) (rm_n (co_ob ob (co_mk rt wd ob ln qt)) (co_kd kd (co_ob ob (co_mk rt wd ob ln qt))) (co_df rt wd ob ln kd qt) n false) (ss_n n)) (co_mk rt wd ob ln qt) fd2 fc2 (iv_c (co_ob ob (co_mk rt wd ob ln qt)) + 1) (cn + 1)) := hD
        refine lv_sipush (v := nI 4096) hx hb d_G_allocate_102 (by decide +kernel) ?_
        refine lv_iload_n hx hb d_G_allocate_105 rfl (lv_at hl 0 rfl) ?_
        refine nx_iadd hx hb d_G_allocate_106 ?_
        refine hret 107 ls (nI (4096 + (rm_n (co_ob ob (co_mk rt wd ob ln qt)) (co_kd kd (co_ob ob (co_mk rt wd ob ln qt))) (co_df rt wd ob ln kd qt) n false))) _ _ _ d_G_allocate_107 hP hS ?_ ?_
        · exact gw_G_adr.trans gw_G_adr.symm
        · exact ⟨by rfl, fd2, fc2, by rfl⟩
    · skip
      omega

set_option maxHeartbeats 4000000 in
set_option maxRecDepth 100000 in
theorem c_G_allocate_2l (l : Launch) (D : va_G) (ca : Nat → ClassId) (hs : Nat → Nat) (rt : Nat → Int32) (wd : Nat → Int32) (ob : Nat → Nat) (ln : Nat → Nat) (kd : Nat → Nat) (qt : Nat → Bool) (df : Nat → Bool) (mk : Nat → Bool) (fd : Nat → Nat) (fc : Nat) (oc : Nat) (cn : Nat) (hv : iv_a ob ln kd wd oc) (n : Nat) (sl : Bool) (hn1 : 1 ≤ n) (hn2 : n ≤ 128) (hsm : ¬ n ≤ 16) (hr0 : ¬ rm_n ob kd df n false < 512) (hr1 : rm_n (co_ob ob (co_mk rt wd ob ln qt)) (co_kd kd (co_ob ob (co_mk rt wd ob ln qt))) (co_df rt wd ob ln kd qt) n false < 512) : Met l y_G_allocate (Cond.code y_G_allocate b_G_allocate 4 (some .int) :: wa_all) (rm_d 6) (va_Pc [.ref (hs 0), .int (nI n), .int (zb_e sl)] (gx_I D cl_all (ty_G ca) (gw_G ca hs rt wd ob ln kd qt df mk fd fc oc cn))) (gx_Q D cl_all (gx_A hs 10) (gw_G ca hs rt wd ob ln kd qt df mk fd fc oc cn) (fun v w' => v = some (.int (nI (4096 + (32 * rm_b (co_kd kd (co_ob ob (co_mk rt wd ob ln qt))) (co_df rt wd ob ln kd qt) false (bk_f n))))) ∧ ∃ (fd2 : Nat → Nat) (fc2 : Nat), w' = gw_G ca hs rt (co_wd wd ob (co_mk rt wd ob ln qt)) (st_ob (co_ob ob (co_mk rt wd ob ln qt)) (32 * rm_b (co_kd kd (co_ob ob (co_mk rt wd ob ln qt))) (co_df rt wd ob ln kd qt) false (bk_f n)) (ss_n n)) (va_up ln (32 * rm_b (co_kd kd (co_ob ob (co_mk rt wd ob ln qt))) (co_df rt wd ob ln kd qt) false (bk_f n)) (ss_n n)) (st_kd (co_kd kd (co_ob ob (co_mk rt wd ob ln qt))) (32 * rm_b (co_kd kd (co_ob ob (co_mk rt wd ob ln qt))) (co_df rt wd ob ln kd qt) false (bk_f n)) (ss_n n) n) (va_up qt (32 * rm_b (co_kd kd (co_ob ob (co_mk rt wd ob ln qt))) (co_df rt wd ob ln kd qt) false (bk_f n)) sl) (st_df (co_df rt wd ob ln kd qt) (32 * rm_b (co_kd kd (co_ob ob (co_mk rt wd ob ln qt))) (co_df rt wd ob ln kd qt) false (bk_f n)) (ss_n n)) (co_mk rt wd ob ln qt) fd2 fc2 (iv_c (co_ob ob (co_mk rt wd ob ln qt)) + 1) (cn + 1))) 0 0 (gx_A hs 10) := by
  refine gx_mutI (by decide) (Nat.le_of_ble_eq_true rfl) gw_G_in ?_
  intro p e s m args below meth c ls Q hx hb hml ht hown hret hP hK hD hS hl
  have hl : lv_has ls 4 [(0, .ref (hs 0)), (1, .int (nI n)), (2, .int (zb_e sl))] := hl
  have hown : s.vm.findClass R_G = some m.cls := hown
  have hk : ∀ b, b < 16 → kd b < 34 := fun b hb => iv_kl hv.2.1 hb
  have ho : ∀ i, i < 512 → ob i < 513 := fun i hi => iv_lt hv.1 hi
  have hP : va_P D cl_all (gw_G ca hs rt wd ob ln kd qt df mk fd fc oc cn) s.heap := hP
  refine lv_iload_n hx hb d_G_allocate_0 rfl (lv_at hl 1 rfl) ?_
  refine lv_iconst (v := nI 1) hx hb d_G_allocate_1 (by decide +kernel) ?_
  refine nx_icmp_lt (tgt := 12) hx hb d_G_allocate_2 (by decide) (by omega) (by omega) (fun h2 => ?_) (fun h2 => ?_)
  · skip
    omega
  · skip
    refine lv_iload_n hx hb d_G_allocate_5 rfl (lv_at hl 1 rfl) ?_
    refine lv_sipush (v := nI 128) hx hb d_G_allocate_6 (by decide +kernel) ?_
    refine nx_icmp_le (tgt := 22) hx hb d_G_allocate_9 (by decide) (by omega) (by omega) (fun h9 => ?_) (fun h9 => ?_)
    · skip
      refine lv_aload_n hx hb d_G_allocate_22 rfl (lv_at hl 0 rfl) ?_
      refine lv_iload_n hx hb d_G_allocate_23 rfl (lv_at hl 1 rfl) ?_
      refine lv_iconst (v := zb_e false) hx hb d_G_allocate_24 (by decide +kernel) ?_
      refine gx_cV (n := 2) (q0 := 0) (ci := 0) (q := (R_G, F_G, 12)) (C := R_G) (own := R_G) (As := [.int (nI n), .int (zb_e false)]) (rest := []) ⟨hx, hb, hml, hown, ht⟩ hg_all (c_G_findRoom l D ca hs (rt) (wd) (ob) (ln) (kd) (qt) (df) (mk) (fd) (fc) (oc) (cn) (n) (by omega) (by omega) (false) (hk) (ho)) wm_253 wm_254 wm_13 wm_34 wm_255 ⟨rfl, by decide, by decide, by decide +kernel⟩ rfl ⟨rfl, rfl⟩ ⟨by decide, by decide⟩ ⟨by decide, by decide⟩ hK hP hD rfl rfl rfl hl.1 rfl (Nat.le_of_ble_eq_true rfl) d_G_allocate_25 ?_
      refine nx_top (show lr_e (rm_n (ob) (kd) (df) (n) false) = -1 from if_neg hr0) ?_
      refine lv_istore_n (lv' := [(3, .int (-1)), (0, .ref (hs 0)), (1, .int (nI n)), (2, .int (zb_e sl))]) hx hb d_G_allocate_28 rfl hl (by decide) rfl (fun ls hl => ?_)
      refine lv_iload_n hx hb d_G_allocate_29 rfl (lv_at hl 0 rfl) ?_
      refine lv_iconst (v := -1) hx hb d_G_allocate_30 (by decide +kernel) ?_
      refine lv_icmp_ne (tgt := 46) hx hb d_G_allocate_31 (by decide) (fun h => absurd rfl h) (fun _ => ?_)
      refine lv_aload_n hx hb d_G_allocate_34 rfl (lv_at hl 1 rfl) ?_
      refine gx_cM (n := 0) (q0 := 0) (ci := 0) (q := (R_G, F_G, 12)) (C := R_G) (own := R_G) (As := []) (rest := []) ⟨hx, hb, hml, hown, ht⟩ hg_all (c_G_collectNow l D ca hs (rt) (wd) (ob) (ln) (kd) (qt) (df) (mk) (fd) (fc) (oc) (cn) hv) wm_98 wm_99 wm_0 wm_34 wm_100 ⟨rfl, by decide, by decide, by decide +kernel⟩ rfl ⟨rfl, rfl⟩ ⟨by decide, by decide⟩ ⟨by decide, by decide⟩ hK hP hD hS (fun _ h => h) rfl rfl rfl hl.1 rfl (Nat.le_of_ble_eq_true rfl) d_G_allocate_35 (fun v w' H locs hZ hP hD hS _ _ => ?_)
      obtain ⟨rfl, fd2, fc2, rfl⟩ := hZ
      have hP : va_P D cl_all (gw_G ca hs rt (co_wd wd ob (co_mk rt wd ob ln qt)) (co_ob ob (co_mk rt wd ob ln qt)) ln (co_kd kd (co_ob ob (co_mk rt wd ob ln qt))) qt (co_df rt wd ob ln kd qt) (co_mk rt wd ob ln qt) fd2 fc2 (iv_c (co_ob ob (co_mk rt wd ob ln qt))) (cn + 1)) H := hP
      have hD : va_D (gx_A hs 10) (gw_G ca hs rt (co_wd wd ob (co_mk rt wd ob ln qt)) (co_ob ob (co_mk rt wd ob ln qt)) ln (co_kd kd (co_ob ob (co_mk rt wd ob ln qt))) qt (co_df rt wd ob ln kd qt) (co_mk rt wd ob ln qt) fd2 fc2 (iv_c (co_ob ob (co_mk rt wd ob ln qt))) (cn + 1)) := hD
      have hv2 := co_iv (co_mk rt wd ob ln qt) hv
      have hk : ∀ b, b < 16 → (co_kd kd (co_ob ob (co_mk rt wd ob ln qt))) b < 34 := fun b hb => iv_kl hv2.2.1 hb
      have ho : ∀ i, i < 512 → (co_ob ob (co_mk rt wd ob ln qt)) i < 513 := fun i hi => iv_lt hv2.1 hi
      refine lv_pop hx hb d_G_allocate_38 rfl ?_
      refine lv_aload_n hx hb d_G_allocate_39 rfl (lv_at hl 1 rfl) ?_
      refine lv_iload_n hx hb d_G_allocate_40 rfl (lv_at hl 2 rfl) ?_
      refine lv_iconst (v := zb_e false) hx hb d_G_allocate_41 (by decide +kernel) ?_
      refine gx_cV (n := 2) (q0 := 0) (ci := 0) (q := (R_G, F_G, 12)) (C := R_G) (own := R_G) (As := [.int (nI n), .int (zb_e false)]) (rest := []) ⟨hx, hb, hml, hown, ht⟩ hg_all (c_G_findRoom l D ca hs (rt) (co_wd wd ob (co_mk rt wd ob ln qt)) (co_ob ob (co_mk rt wd ob ln qt)) (ln) (co_kd kd (co_ob ob (co_mk rt wd ob ln qt))) (qt) (co_df rt wd ob ln kd qt) (co_mk rt wd ob ln qt) (fd2) (fc2) (iv_c (co_ob ob (co_mk rt wd ob ln qt))) (cn + 1) (n) (by omega) (by omega) (false) (hk) (ho)) wm_253 wm_254 wm_13 wm_34 wm_255 ⟨rfl, by decide, by decide, by decide +kernel⟩ rfl ⟨rfl, rfl⟩ ⟨by decide, by decide⟩ ⟨by decide, by decide⟩ hK hP hD rfl rfl rfl hl.1 rfl (Nat.le_of_ble_eq_true rfl) d_G_allocate_42 ?_
      have hok := rm_fact hv2.1 hv2.2.2.1 hn1 hr1
      rw [rm_g hsm] at hok
      have hok1 := hok.1
      have hok3 := hok.2.2.1
      rw [ss_g hsm] at hok1 hok3
      refine nx_top (show lr_e (rm_n (co_ob ob (co_mk rt wd ob ln qt)) (co_kd kd (co_ob ob (co_mk rt wd ob ln qt))) (co_df rt wd ob ln kd qt) n false) = nI (32 * rm_b (co_kd kd (co_ob ob (co_mk rt wd ob ln qt))) (co_df rt wd ob ln kd qt) false (bk_f n)) by rw [← rm_g hsm]; exact if_pos hr1) ?_
      refine lv_istore_n (lv' := [(3, .int (nI (32 * rm_b (co_kd kd (co_ob ob (co_mk rt wd ob ln qt))) (co_df rt wd ob ln kd qt) false (bk_f n)))), (0, .ref (hs 0)), (1, .int (nI n)), (2, .int (zb_e sl))]) hx hb d_G_allocate_45 rfl hl (by decide) rfl (fun ls hl => ?_)
      refine lv_iload_n hx hb d_G_allocate_46 rfl (lv_at hl 0 rfl) ?_
      refine lv_iconst (v := -1) hx hb d_G_allocate_47 (by decide +kernel) ?_
      refine lv_icmp_ne (tgt := 58) hx hb d_G_allocate_48 (by decide) (fun _ => ?_) (fun h => absurd h (zn_m1 (by omega)))
      refine lv_iload_n hx hb d_G_allocate_58 rfl (lv_at hl 0 rfl) ?_
      refine lv_iconst (v := -1) hx hb d_G_allocate_59 (by decide +kernel) ?_
      refine lv_icmp_ne (tgt := 73) hx hb d_G_allocate_60 (by decide) (fun _ => ?_) (fun h => absurd h (zn_m1 (by omega)))
      refine lv_iload_n hx hb d_G_allocate_73 rfl (lv_at hl 2 rfl) ?_
      refine lv_bipush (v := nI 16) hx hb d_G_allocate_74 (by decide +kernel) ?_
      refine nx_icmp_gt (tgt := 92) hx hb d_G_allocate_76 (by decide) (by omega) (by omega) (fun h76 => ?_) (fun h76 => ?_)
      · skip
        refine lv_aload_n hx hb d_G_allocate_92 rfl (lv_at hl 1 rfl) ?_
        refine lv_iload_n hx hb d_G_allocate_93 rfl (lv_at hl 0 rfl) ?_
        refine lv_iload_n hx hb d_G_allocate_94 rfl (lv_at hl 2 rfl) ?_
        refine gx_cS (n := 1) (own := R_G) (As := [.int (nI n)]) (rest := [.int (nI (32 * rm_b (co_kd kd (co_ob ob (co_mk rt wd ob ln qt))) (co_df rt wd ob ln kd qt) false (bk_f n))), .ref (hs 0)]) ⟨hx, hb, hml, hown, ht⟩ hg_all (c_G_blocksFor l (n) (by omega)) wm_256 wm_257 wm_34 wm_258 ⟨rfl, by decide, by decide, by decide +kernel⟩ rfl ⟨rfl, rfl⟩ ⟨by decide, by decide⟩ ⟨by decide, by decide⟩ hl.1 rfl (Nat.le_of_ble_eq_true rfl) d_G_allocate_95 ?_
        refine lv_iload_n hx hb d_G_allocate_98 rfl (lv_at hl 3 rfl) ?_
        refine gx_cM (n := 3) (q0 := 0) (ci := 0) (q := (R_G, F_G, 12)) (C := R_G) (own := R_G) (As := [.int (nI (32 * rm_b (co_kd kd (co_ob ob (co_mk rt wd ob ln qt))) (co_df rt wd ob ln kd qt) false (bk_f n))), .int (nI (bk_f (n))), .int (zb_e sl)]) (rest := []) ⟨hx, hb, hml, hown, ht⟩ hg_all (c_G_placeLarge l D ca hs (rt) (co_wd wd ob (co_mk rt wd ob ln qt)) (co_ob ob (co_mk rt wd ob ln qt)) (ln) (co_kd kd (co_ob ob (co_mk rt wd ob ln qt))) (qt) (co_df rt wd ob ln kd qt) (co_mk rt wd ob ln qt) (fd2) (fc2) (iv_c (co_ob ob (co_mk rt wd ob ln qt))) (cn + 1) (rm_b (co_kd kd (co_ob ob (co_mk rt wd ob ln qt))) (co_df rt wd ob ln kd qt) false (bk_f n)) (bk_f (n)) sl (by unfold bk_f; omega) (by omega)) wm_291 wm_292 wm_19 wm_34 wm_293 ⟨rfl, by decide, by decide, by decide +kernel⟩ rfl ⟨rfl, rfl⟩ ⟨by decide, by decide⟩ ⟨by decide, by decide⟩ hK hP hD hS (fun _ h => h) rfl rfl rfl hl.1 rfl (Nat.le_of_ble_eq_true rfl) d_G_allocate_99 (fun v w' H locs hZ hP hD hS _ _ => ?_)
        obtain ⟨rfl, rfl⟩ := hZ
        have hP : va_P D cl_all (gw_G ca hs rt (co_wd wd ob (co_mk rt wd ob ln qt)) (st_ob (co_ob ob (co_mk rt wd ob ln qt)) (32 * rm_b (co_kd kd (co_ob ob (co_mk rt wd ob ln qt))) (co_df rt wd ob ln kd qt) false (bk_f n)) (bk_f (n) * 32)) (va_up (ln) (32 * rm_b (co_kd kd (co_ob ob (co_mk rt wd ob ln qt))) (co_df rt wd ob ln kd qt) false (bk_f n)) (bk_f (n) * 32)) (st_kd (co_kd kd (co_ob ob (co_mk rt wd ob ln qt))) (32 * rm_b (co_kd kd (co_ob ob (co_mk rt wd ob ln qt))) (co_df rt wd ob ln kd qt) false (bk_f n)) (bk_f (n) * 32) 17) (va_up (qt) (32 * rm_b (co_kd kd (co_ob ob (co_mk rt wd ob ln qt))) (co_df rt wd ob ln kd qt) false (bk_f n)) sl) (st_df (co_df rt wd ob ln kd qt) (32 * rm_b (co_kd kd (co_ob ob (co_mk rt wd ob ln qt))) (co_df rt wd ob ln kd qt) false (bk_f n)) (bk_f (n) * 32)) (co_mk rt wd ob ln qt) fd2 fc2 (iv_c (co_ob ob (co_mk rt wd ob ln qt)) + 1) (cn + 1)) H := hP
        have hD : va_D (gx_A hs 10) (gw_G ca hs rt (co_wd wd ob (co_mk rt wd ob ln qt)) (st_ob (co_ob ob (co_mk rt wd ob ln qt)) (32 * rm_b (co_kd kd (co_ob ob (co_mk rt wd ob ln qt))) (co_df rt wd ob ln kd qt) false (bk_f n)) (bk_f (n) * 32)) (va_up (ln) (32 * rm_b (co_kd kd (co_ob ob (co_mk rt wd ob ln qt))) (co_df rt wd ob ln kd qt) false (bk_f n)) (bk_f (n) * 32)) (st_kd (co_kd kd (co_ob ob (co_mk rt wd ob ln qt))) (32 * rm_b (co_kd kd (co_ob ob (co_mk rt wd ob ln qt))) (co_df rt wd ob ln kd qt) false (bk_f n)) (bk_f (n) * 32) 17) (va_up (qt) (32 * rm_b (co_kd kd (co_ob ob (co_mk rt wd ob ln qt))) (co_df rt wd ob ln kd qt) false (bk_f n)) sl) (st_df (co_df rt wd ob ln kd qt) (32 * rm_b (co_kd kd (co_ob ob (co_mk rt wd ob ln qt))) (co_df rt wd ob ln kd qt) false (bk_f n)) (bk_f (n) * 32)) (co_mk rt wd ob ln qt) fd2 fc2 (iv_c (co_ob ob (co_mk rt wd ob ln qt)) + 1) (cn + 1)) := hD
        rw [sk_g hsm, ← ss_g hsm] at hP hD
        have hP : va_P D cl_all (gw_G ca hs rt (co_wd wd ob (co_mk rt wd ob ln qt)) (st_ob (co_ob ob (co_mk rt wd ob ln qt)) (32 * rm_b (co_kd kd (co_ob ob (co_mk rt wd ob ln qt))) (co_df rt wd ob ln kd qt) false (bk_f n)) (ss_n n)) (va_up ln (32 * rm_b (co_kd kd (co_ob ob (co_mk rt wd ob ln qt))) (co_df rt wd ob ln kd qt) false (bk_f n)) (ss_n n)) (st_kd (co_kd kd (co_ob ob (co_mk rt wd ob ln qt))) (32 * rm_b (co_kd kd (co_ob ob (co_mk rt wd ob ln qt))) (co_df rt wd ob ln kd qt) false (bk_f n)) (ss_n n) n) (va_up qt (32 * rm_b (co_kd kd (co_ob ob (co_mk rt wd ob ln qt))) (co_df rt wd ob ln kd qt) false (bk_f n)) sl) (st_df (co_df rt wd ob ln kd qt) (32 * rm_b (co_kd kd (co_ob ob (co_mk rt wd ob ln qt))) (co_df rt wd ob ln kd qt) false (bk_f n)) (ss_n n)) (co_mk rt wd ob ln qt) fd2 fc2 (iv_c (co_ob ob (co_mk rt wd ob ln qt)) + 1) (cn + 1)) H := hP
        have hD : va_D (gx_A hs 10) (gw_G ca hs rt (co_wd wd ob (co_mk rt wd ob ln qt)) (st_ob (co_ob ob (co_mk rt wd ob ln qt)) (32 * rm_b (co_kd kd (co_ob ob (co_mk rt wd ob ln qt))) (co_df rt wd ob ln kd qt) false (bk_f n)) (ss_n n)) (va_up ln (32 * rm_b (co_kd kd (co_ob ob (co_mk rt wd ob ln qt))) (co_df rt wd ob ln kd qt) false (bk_f n)) (ss_n n)) (st_kd (co_kd kd (co_ob ob (co_mk rt wd ob ln qt))) (32 * rm_b (co_kd kd (co_ob ob (co_mk rt wd ob ln qt))) (co_df rt wd ob ln kd qt) false (bk_f n)) (ss_n n) n) (va_up qt (32 * rm_b (co_kd kd (co_ob ob (co_mk rt wd ob ln qt))) (co_df rt wd ob ln kd qt) false (bk_f n)) sl) (st_df (co_df rt wd ob ln kd qt) (32 * rm_b (co_kd kd (co_ob ob (co_mk rt wd ob ln qt))) (co_df rt wd ob ln kd qt) false (bk_f n)) (ss_n n)) (co_mk rt wd ob ln qt) fd2 fc2 (iv_c (co_ob ob (co_mk rt wd ob ln qt)) + 1) (cn + 1)) := hD
        refine lv_sipush (v := nI 4096) hx hb d_G_allocate_102 (by decide +kernel) ?_
        refine lv_iload_n hx hb d_G_allocate_105 rfl (lv_at hl 0 rfl) ?_
        refine nx_iadd hx hb d_G_allocate_106 ?_
        refine hret 107 ls (nI (4096 + (32 * rm_b (co_kd kd (co_ob ob (co_mk rt wd ob ln qt))) (co_df rt wd ob ln kd qt) false (bk_f n)))) _ _ _ d_G_allocate_107 hP hS ?_ ?_
        · exact gw_G_adr.trans gw_G_adr.symm
        · exact ⟨by rfl, fd2, fc2, by rfl⟩
      · skip
        omega
    · skip
      omega

set_option maxHeartbeats 4000000 in
set_option maxRecDepth 100000 in
theorem c_G_allocate_3s (l : Launch) (D : va_G) (ca : Nat → ClassId) (hs : Nat → Nat) (rt : Nat → Int32) (wd : Nat → Int32) (ob : Nat → Nat) (ln : Nat → Nat) (kd : Nat → Nat) (qt : Nat → Bool) (df : Nat → Bool) (mk : Nat → Bool) (fd : Nat → Nat) (fc : Nat) (oc : Nat) (cn : Nat) (hv : iv_a ob ln kd wd oc) (n : Nat) (sl : Bool) (hn1 : 1 ≤ n) (hn2 : n ≤ 128) (hsm : n ≤ 16) (hr0 : ¬ rm_n ob kd df n false < 512) (hr1 : ¬ rm_n (co_ob ob (co_mk rt wd ob ln qt)) (co_kd kd (co_ob ob (co_mk rt wd ob ln qt))) (co_df rt wd ob ln kd qt) n false < 512) (hr2 : rm_n (co_ob ob (co_mk rt wd ob ln qt)) (co_kd kd (co_ob ob (co_mk rt wd ob ln qt))) (co_df rt wd ob ln kd qt) n true < 512) : Met l y_G_allocate (Cond.code y_G_allocate b_G_allocate 4 (some .int) :: wa_all) (rm_d 6) (va_Pc [.ref (hs 0), .int (nI n), .int (zb_e sl)] (gx_I D cl_all (ty_G ca) (gw_G ca hs rt wd ob ln kd qt df mk fd fc oc cn))) (gx_Q D cl_all (gx_A hs 10) (gw_G ca hs rt wd ob ln kd qt df mk fd fc oc cn) (fun v w' => v = some (.int (nI (4096 + rm_n (co_ob ob (co_mk rt wd ob ln qt)) (co_kd kd (co_ob ob (co_mk rt wd ob ln qt))) (co_df rt wd ob ln kd qt) n true))) ∧ ∃ (fd2 : Nat → Nat) (fc2 : Nat), w' = gw_G ca hs rt (co_wd wd ob (co_mk rt wd ob ln qt)) (st_ob (co_ob ob (co_mk rt wd ob ln qt)) (rm_n (co_ob ob (co_mk rt wd ob ln qt)) (co_kd kd (co_ob ob (co_mk rt wd ob ln qt))) (co_df rt wd ob ln kd qt) n true) (ss_n n)) (va_up ln (rm_n (co_ob ob (co_mk rt wd ob ln qt)) (co_kd kd (co_ob ob (co_mk rt wd ob ln qt))) (co_df rt wd ob ln kd qt) n true) (ss_n n)) (st_kd (co_kd kd (co_ob ob (co_mk rt wd ob ln qt))) (rm_n (co_ob ob (co_mk rt wd ob ln qt)) (co_kd kd (co_ob ob (co_mk rt wd ob ln qt))) (co_df rt wd ob ln kd qt) n true) (ss_n n) n) (va_up qt (rm_n (co_ob ob (co_mk rt wd ob ln qt)) (co_kd kd (co_ob ob (co_mk rt wd ob ln qt))) (co_df rt wd ob ln kd qt) n true) sl) (st_df (co_df rt wd ob ln kd qt) (rm_n (co_ob ob (co_mk rt wd ob ln qt)) (co_kd kd (co_ob ob (co_mk rt wd ob ln qt))) (co_df rt wd ob ln kd qt) n true) (ss_n n)) (co_mk rt wd ob ln qt) fd2 fc2 (iv_c (co_ob ob (co_mk rt wd ob ln qt)) + 1) (cn + 1))) 0 0 (gx_A hs 10) := by
  refine gx_mutI (by decide) (Nat.le_of_ble_eq_true rfl) gw_G_in ?_
  intro p e s m args below meth c ls Q hx hb hml ht hown hret hP hK hD hS hl
  have hl : lv_has ls 4 [(0, .ref (hs 0)), (1, .int (nI n)), (2, .int (zb_e sl))] := hl
  have hown : s.vm.findClass R_G = some m.cls := hown
  have hk : ∀ b, b < 16 → kd b < 34 := fun b hb => iv_kl hv.2.1 hb
  have ho : ∀ i, i < 512 → ob i < 513 := fun i hi => iv_lt hv.1 hi
  have hP : va_P D cl_all (gw_G ca hs rt wd ob ln kd qt df mk fd fc oc cn) s.heap := hP
  refine lv_iload_n hx hb d_G_allocate_0 rfl (lv_at hl 1 rfl) ?_
  refine lv_iconst (v := nI 1) hx hb d_G_allocate_1 (by decide +kernel) ?_
  refine nx_icmp_lt (tgt := 12) hx hb d_G_allocate_2 (by decide) (by omega) (by omega) (fun h2 => ?_) (fun h2 => ?_)
  · skip
    omega
  · skip
    refine lv_iload_n hx hb d_G_allocate_5 rfl (lv_at hl 1 rfl) ?_
    refine lv_sipush (v := nI 128) hx hb d_G_allocate_6 (by decide +kernel) ?_
    refine nx_icmp_le (tgt := 22) hx hb d_G_allocate_9 (by decide) (by omega) (by omega) (fun h9 => ?_) (fun h9 => ?_)
    · skip
      refine lv_aload_n hx hb d_G_allocate_22 rfl (lv_at hl 0 rfl) ?_
      refine lv_iload_n hx hb d_G_allocate_23 rfl (lv_at hl 1 rfl) ?_
      refine lv_iconst (v := zb_e false) hx hb d_G_allocate_24 (by decide +kernel) ?_
      refine gx_cV (n := 2) (q0 := 0) (ci := 0) (q := (R_G, F_G, 12)) (C := R_G) (own := R_G) (As := [.int (nI n), .int (zb_e false)]) (rest := []) ⟨hx, hb, hml, hown, ht⟩ hg_all (c_G_findRoom l D ca hs (rt) (wd) (ob) (ln) (kd) (qt) (df) (mk) (fd) (fc) (oc) (cn) (n) (by omega) (by omega) (false) (hk) (ho)) wm_253 wm_254 wm_13 wm_34 wm_255 ⟨rfl, by decide, by decide, by decide +kernel⟩ rfl ⟨rfl, rfl⟩ ⟨by decide, by decide⟩ ⟨by decide, by decide⟩ hK hP hD rfl rfl rfl hl.1 rfl (Nat.le_of_ble_eq_true rfl) d_G_allocate_25 ?_
      refine nx_top (show lr_e (rm_n (ob) (kd) (df) (n) false) = -1 from if_neg hr0) ?_
      refine lv_istore_n (lv' := [(3, .int (-1)), (0, .ref (hs 0)), (1, .int (nI n)), (2, .int (zb_e sl))]) hx hb d_G_allocate_28 rfl hl (by decide) rfl (fun ls hl => ?_)
      refine lv_iload_n hx hb d_G_allocate_29 rfl (lv_at hl 0 rfl) ?_
      refine lv_iconst (v := -1) hx hb d_G_allocate_30 (by decide +kernel) ?_
      refine lv_icmp_ne (tgt := 46) hx hb d_G_allocate_31 (by decide) (fun h => absurd rfl h) (fun _ => ?_)
      refine lv_aload_n hx hb d_G_allocate_34 rfl (lv_at hl 1 rfl) ?_
      refine gx_cM (n := 0) (q0 := 0) (ci := 0) (q := (R_G, F_G, 12)) (C := R_G) (own := R_G) (As := []) (rest := []) ⟨hx, hb, hml, hown, ht⟩ hg_all (c_G_collectNow l D ca hs (rt) (wd) (ob) (ln) (kd) (qt) (df) (mk) (fd) (fc) (oc) (cn) hv) wm_98 wm_99 wm_0 wm_34 wm_100 ⟨rfl, by decide, by decide, by decide +kernel⟩ rfl ⟨rfl, rfl⟩ ⟨by decide, by decide⟩ ⟨by decide, by decide⟩ hK hP hD hS (fun _ h => h) rfl rfl rfl hl.1 rfl (Nat.le_of_ble_eq_true rfl) d_G_allocate_35 (fun v w' H locs hZ hP hD hS _ _ => ?_)
      obtain ⟨rfl, fd2, fc2, rfl⟩ := hZ
      have hP : va_P D cl_all (gw_G ca hs rt (co_wd wd ob (co_mk rt wd ob ln qt)) (co_ob ob (co_mk rt wd ob ln qt)) ln (co_kd kd (co_ob ob (co_mk rt wd ob ln qt))) qt (co_df rt wd ob ln kd qt) (co_mk rt wd ob ln qt) fd2 fc2 (iv_c (co_ob ob (co_mk rt wd ob ln qt))) (cn + 1)) H := hP
      have hD : va_D (gx_A hs 10) (gw_G ca hs rt (co_wd wd ob (co_mk rt wd ob ln qt)) (co_ob ob (co_mk rt wd ob ln qt)) ln (co_kd kd (co_ob ob (co_mk rt wd ob ln qt))) qt (co_df rt wd ob ln kd qt) (co_mk rt wd ob ln qt) fd2 fc2 (iv_c (co_ob ob (co_mk rt wd ob ln qt))) (cn + 1)) := hD
      have hv2 := co_iv (co_mk rt wd ob ln qt) hv
      have hk : ∀ b, b < 16 → (co_kd kd (co_ob ob (co_mk rt wd ob ln qt))) b < 34 := fun b hb => iv_kl hv2.2.1 hb
      have ho : ∀ i, i < 512 → (co_ob ob (co_mk rt wd ob ln qt)) i < 513 := fun i hi => iv_lt hv2.1 hi
      refine lv_pop hx hb d_G_allocate_38 rfl ?_
      refine lv_aload_n hx hb d_G_allocate_39 rfl (lv_at hl 1 rfl) ?_
      refine lv_iload_n hx hb d_G_allocate_40 rfl (lv_at hl 2 rfl) ?_
      refine lv_iconst (v := zb_e false) hx hb d_G_allocate_41 (by decide +kernel) ?_
      refine gx_cV (n := 2) (q0 := 0) (ci := 0) (q := (R_G, F_G, 12)) (C := R_G) (own := R_G) (As := [.int (nI n), .int (zb_e false)]) (rest := []) ⟨hx, hb, hml, hown, ht⟩ hg_all (c_G_findRoom l D ca hs (rt) (co_wd wd ob (co_mk rt wd ob ln qt)) (co_ob ob (co_mk rt wd ob ln qt)) (ln) (co_kd kd (co_ob ob (co_mk rt wd ob ln qt))) (qt) (co_df rt wd ob ln kd qt) (co_mk rt wd ob ln qt) (fd2) (fc2) (iv_c (co_ob ob (co_mk rt wd ob ln qt))) (cn + 1) (n) (by omega) (by omega) (false) (hk) (ho)) wm_253 wm_254 wm_13 wm_34 wm_255 ⟨rfl, by decide, by decide, by decide +kernel⟩ rfl ⟨rfl, rfl⟩ ⟨by decide, by decide⟩ ⟨by decide, by decide⟩ hK hP hD rfl rfl rfl hl.1 rfl (Nat.le_of_ble_eq_true rfl) d_G_allocate_42 ?_
      refine nx_top (show lr_e (rm_n (co_ob ob (co_mk rt wd ob ln qt)) (co_kd kd (co_ob ob (co_mk rt wd ob ln qt))) (co_df rt wd ob ln kd qt) (n) false) = -1 from if_neg hr1) ?_
      refine lv_istore_n (lv' := [(3, .int (-1)), (0, .ref (hs 0)), (1, .int (nI n)), (2, .int (zb_e sl))]) hx hb d_G_allocate_45 rfl hl (by decide) rfl (fun ls hl => ?_)
      refine lv_iload_n hx hb d_G_allocate_46 rfl (lv_at hl 0 rfl) ?_
      refine lv_iconst (v := -1) hx hb d_G_allocate_47 (by decide +kernel) ?_
      refine lv_icmp_ne (tgt := 58) hx hb d_G_allocate_48 (by decide) (fun h => absurd rfl h) (fun _ => ?_)
      refine lv_aload_n hx hb d_G_allocate_51 rfl (lv_at hl 1 rfl) ?_
      refine lv_iload_n hx hb d_G_allocate_52 rfl (lv_at hl 2 rfl) ?_
      refine lv_iconst (v := zb_e true) hx hb d_G_allocate_53 (by decide +kernel) ?_
      refine gx_cV (n := 2) (q0 := 0) (ci := 0) (q := (R_G, F_G, 12)) (C := R_G) (own := R_G) (As := [.int (nI n), .int (zb_e true)]) (rest := []) ⟨hx, hb, hml, hown, ht⟩ hg_all (c_G_findRoom l D ca hs (rt) (co_wd wd ob (co_mk rt wd ob ln qt)) (co_ob ob (co_mk rt wd ob ln qt)) (ln) (co_kd kd (co_ob ob (co_mk rt wd ob ln qt))) (qt) (co_df rt wd ob ln kd qt) (co_mk rt wd ob ln qt) (fd2) (fc2) (iv_c (co_ob ob (co_mk rt wd ob ln qt))) (cn + 1) (n) (by omega) (by omega) (true) (hk) (ho)) wm_253 wm_254 wm_13 wm_34 wm_255 ⟨rfl, by decide, by decide, by decide +kernel⟩ rfl ⟨rfl, rfl⟩ ⟨by decide, by decide⟩ ⟨by decide, by decide⟩ hK hP hD rfl rfl rfl hl.1 rfl (Nat.le_of_ble_eq_true rfl) d_G_allocate_54 ?_
      have hok := rm_fact hv2.1 hv2.2.2.1 hn1 hr2
      have hok1 := hok.1
      have hok3 := hok.2.2.1
      rw [ss_s hsm] at hok1 hok3
      refine nx_top (show lr_e (rm_n (co_ob ob (co_mk rt wd ob ln qt)) (co_kd kd (co_ob ob (co_mk rt wd ob ln qt))) (co_df rt wd ob ln kd qt) n true) = nI (rm_n (co_ob ob (co_mk rt wd ob ln qt)) (co_kd kd (co_ob ob (co_mk rt wd ob ln qt))) (co_df rt wd ob ln kd qt) n true) from if_pos hr2) ?_
      refine lv_istore_n (lv' := [(3, .int (nI (rm_n (co_ob ob (co_mk rt wd ob ln qt)) (co_kd kd (co_ob ob (co_mk rt wd ob ln qt))) (co_df rt wd ob ln kd qt) n true))), (0, .ref (hs 0)), (1, .int (nI n)), (2, .int (zb_e sl))]) hx hb d_G_allocate_57 rfl hl (by decide) rfl (fun ls hl => ?_)
      refine lv_iload_n hx hb d_G_allocate_58 rfl (lv_at hl 0 rfl) ?_
      refine lv_iconst (v := -1) hx hb d_G_allocate_59 (by decide +kernel) ?_
      refine lv_icmp_ne (tgt := 73) hx hb d_G_allocate_60 (by decide) (fun _ => ?_) (fun h => absurd h (zn_m1 (by omega)))
      refine lv_iload_n hx hb d_G_allocate_73 rfl (lv_at hl 2 rfl) ?_
      refine lv_bipush (v := nI 16) hx hb d_G_allocate_74 (by decide +kernel) ?_
      refine nx_icmp_gt (tgt := 92) hx hb d_G_allocate_76 (by decide) (by omega) (by omega) (fun h76 => ?_) (fun h76 => ?_)
      · skip
        omega
      · skip
        refine lv_aload_n hx hb d_G_allocate_79 rfl (lv_at hl 1 rfl) ?_
        refine lv_iload_n hx hb d_G_allocate_80 rfl (lv_at hl 0 rfl) ?_
        refine lv_iload_n hx hb d_G_allocate_81 rfl (lv_at hl 2 rfl) ?_
        refine gx_cS (n := 1) (own := R_G) (As := [.int (nI n)]) (rest := [.int (nI (rm_n (co_ob ob (co_mk rt wd ob ln qt)) (co_kd kd (co_ob ob (co_mk rt wd ob ln qt))) (co_df rt wd ob ln kd qt) n true)), .ref (hs 0)]) ⟨hx, hb, hml, hown, ht⟩ hg_all (c_G_slotSize l (n) (by omega)) wm_262 wm_263 wm_34 wm_264 ⟨rfl, by decide, by decide, by decide +kernel⟩ rfl ⟨rfl, rfl⟩ ⟨by decide, by decide⟩ ⟨by decide, by decide⟩ hl.1 rfl (Nat.le_of_ble_eq_true rfl) d_G_allocate_82 ?_
        refine lv_iload_n hx hb d_G_allocate_85 rfl (lv_at hl 3 rfl) ?_
        refine gx_cM (n := 3) (q0 := 0) (ci := 0) (q := (R_G, F_G, 12)) (C := R_G) (own := R_G) (As := [.int (nI (rm_n (co_ob ob (co_mk rt wd ob ln qt)) (co_kd kd (co_ob ob (co_mk rt wd ob ln qt))) (co_df rt wd ob ln kd qt) n true)), .int (nI (sz_f (n))), .int (zb_e sl)]) (rest := []) ⟨hx, hb, hml, hown, ht⟩ hg_all (c_G_placeSmall l D ca hs (rt) (co_wd wd ob (co_mk rt wd ob ln qt)) (co_ob ob (co_mk rt wd ob ln qt)) (ln) (co_kd kd (co_ob ob (co_mk rt wd ob ln qt))) (qt) (co_df rt wd ob ln kd qt) (co_mk rt wd ob ln qt) (fd2) (fc2) (iv_c (co_ob ob (co_mk rt wd ob ln qt))) (cn + 1) (rm_n (co_ob ob (co_mk rt wd ob ln qt)) (co_kd kd (co_ob ob (co_mk rt wd ob ln qt))) (co_df rt wd ob ln kd qt) n true) (sz_f (n)) sl (by omega) (by omega)) wm_282 wm_283 wm_16 wm_34 wm_284 ⟨rfl, by decide, by decide, by decide +kernel⟩ rfl ⟨rfl, rfl⟩ ⟨by decide, by decide⟩ ⟨by decide, by decide⟩ hK hP hD hS (fun _ h => h) rfl rfl rfl hl.1 rfl (Nat.le_of_ble_eq_true rfl) d_G_allocate_86 (fun v w' H locs hZ hP hD hS _ _ => ?_)
        obtain ⟨rfl, rfl⟩ := hZ
        have hP : va_P D cl_all (gw_G ca hs rt (co_wd wd ob (co_mk rt wd ob ln qt)) (st_ob (co_ob ob (co_mk rt wd ob ln qt)) (rm_n (co_ob ob (co_mk rt wd ob ln qt)) (co_kd kd (co_ob ob (co_mk rt wd ob ln qt))) (co_df rt wd ob ln kd qt) n true) (sz_f (n))) (va_up (ln) (rm_n (co_ob ob (co_mk rt wd ob ln qt)) (co_kd kd (co_ob ob (co_mk rt wd ob ln qt))) (co_df rt wd ob ln kd qt) n true) (sz_f (n))) (va_up (co_kd kd (co_ob ob (co_mk rt wd ob ln qt))) ((rm_n (co_ob ob (co_mk rt wd ob ln qt)) (co_kd kd (co_ob ob (co_mk rt wd ob ln qt))) (co_df rt wd ob ln kd qt) n true) / 32) (sz_f (n))) (va_up (qt) (rm_n (co_ob ob (co_mk rt wd ob ln qt)) (co_kd kd (co_ob ob (co_mk rt wd ob ln qt))) (co_df rt wd ob ln kd qt) n true) sl) (va_up (co_df rt wd ob ln kd qt) ((rm_n (co_ob ob (co_mk rt wd ob ln qt)) (co_kd kd (co_ob ob (co_mk rt wd ob ln qt))) (co_df rt wd ob ln kd qt) n true) / 32) false) (co_mk rt wd ob ln qt) fd2 fc2 (iv_c (co_ob ob (co_mk rt wd ob ln qt)) + 1) (cn + 1)) H := hP
        have hD : va_D (gx_A hs 10) (gw_G ca hs rt (co_wd wd ob (co_mk rt wd ob ln qt)) (st_ob (co_ob ob (co_mk rt wd ob ln qt)) (rm_n (co_ob ob (co_mk rt wd ob ln qt)) (co_kd kd (co_ob ob (co_mk rt wd ob ln qt))) (co_df rt wd ob ln kd qt) n true) (sz_f (n))) (va_up (ln) (rm_n (co_ob ob (co_mk rt wd ob ln qt)) (co_kd kd (co_ob ob (co_mk rt wd ob ln qt))) (co_df rt wd ob ln kd qt) n true) (sz_f (n))) (va_up (co_kd kd (co_ob ob (co_mk rt wd ob ln qt))) ((rm_n (co_ob ob (co_mk rt wd ob ln qt)) (co_kd kd (co_ob ob (co_mk rt wd ob ln qt))) (co_df rt wd ob ln kd qt) n true) / 32) (sz_f (n))) (va_up (qt) (rm_n (co_ob ob (co_mk rt wd ob ln qt)) (co_kd kd (co_ob ob (co_mk rt wd ob ln qt))) (co_df rt wd ob ln kd qt) n true) sl) (va_up (co_df rt wd ob ln kd qt) ((rm_n (co_ob ob (co_mk rt wd ob ln qt)) (co_kd kd (co_ob ob (co_mk rt wd ob ln qt))) (co_df rt wd ob ln kd qt) n true) / 32) false) (co_mk rt wd ob ln qt) fd2 fc2 (iv_c (co_ob ob (co_mk rt wd ob ln qt)) + 1) (cn + 1)) := hD
        refine lv_goto (tgt := 102) hx hb d_G_allocate_89 (by decide) ?_
        rw [sk_s hsm hok, sd_s hsm hok, ← ss_s hsm] at hP hD
        have hP : va_P D cl_all (gw_G ca hs rt (co_wd wd ob (co_mk rt wd ob ln qt)) (st_ob (co_ob ob (co_mk rt wd ob ln qt)) (rm_n (co_ob ob (co_mk rt wd ob ln qt)) (co_kd kd (co_ob ob (co_mk rt wd ob ln qt))) (co_df rt wd ob ln kd qt) n true) (ss_n n)) (va_up ln (rm_n (co_ob ob (co_mk rt wd ob ln qt)) (co_kd kd (co_ob ob (co_mk rt wd ob ln qt))) (co_df rt wd ob ln kd qt) n true) (ss_n n)) (st_kd (co_kd kd (co_ob ob (co_mk rt wd ob ln qt))) (rm_n (co_ob ob (co_mk rt wd ob ln qt)) (co_kd kd (co_ob ob (co_mk rt wd ob ln qt))) (co_df rt wd ob ln kd qt) n true) (ss_n n) n) (va_up qt (rm_n (co_ob ob (co_mk rt wd ob ln qt)) (co_kd kd (co_ob ob (co_mk rt wd ob ln qt))) (co_df rt wd ob ln kd qt) n true) sl) (st_df (co_df rt wd ob ln kd qt) (rm_n (co_ob ob (co_mk rt wd ob ln qt)) (co_kd kd (co_ob ob (co_mk rt wd ob ln qt))) (co_df rt wd ob ln kd qt) n true) (ss_n n)) (co_mk rt wd ob ln qt) fd2 fc2 (iv_c (co_ob ob (co_mk rt wd ob ln qt)) + 1) (cn + 1)) H := hP
        have hD : va_D (gx_A hs 10) (gw_G ca hs rt (co_wd wd ob (co_mk rt wd ob ln qt)) (st_ob (co_ob ob (co_mk rt wd ob ln qt)) (rm_n (co_ob ob (co_mk rt wd ob ln qt)) (co_kd kd (co_ob ob (co_mk rt wd ob ln qt))) (co_df rt wd ob ln kd qt) n true) (ss_n n)) (va_up ln (rm_n (co_ob ob (co_mk rt wd ob ln qt)) (co_kd kd (co_ob ob (co_mk rt wd ob ln qt))) (co_df rt wd ob ln kd qt) n true) (ss_n n)) (st_kd (co_kd kd (co_ob ob (co_mk rt wd ob ln qt))) (rm_n (co_ob ob (co_mk rt wd ob ln qt)) (co_kd kd (co_ob ob (co_mk rt wd ob ln qt))) (co_df rt wd ob ln kd qt) n true) (ss_n n) n) (va_up qt (rm_n (co_ob ob (co_mk rt wd ob ln qt)) (co_kd kd (co_ob ob (co_mk rt wd ob ln qt))) (co_df rt wd ob ln kd qt) n true) sl) (st_df (co_df rt wd ob ln kd qt) (rm_n (co_ob ob (co_mk rt wd ob ln qt)) (co_kd kd (co_ob ob (co_mk rt wd ob ln qt))) (co_df rt wd ob ln kd qt) n true) (ss_n n)) (co_mk rt wd ob ln qt) fd2 fc2 (iv_c (co_ob ob (co_mk rt wd ob ln qt)) + 1) (cn + 1)) := hD
        refine lv_sipush (v := nI 4096) hx hb d_G_allocate_102 (by decide +kernel) ?_
        refine lv_iload_n hx hb d_G_allocate_105 rfl (lv_at hl 0 rfl) ?_
        refine nx_iadd hx hb d_G_allocate_106 ?_
        refine hret 107 ls (nI (4096 + (rm_n (co_ob ob (co_mk rt wd ob ln qt)) (co_kd kd (co_ob ob (co_mk rt wd ob ln qt))) (co_df rt wd ob ln kd qt) n true))) _ _ _ d_G_allocate_107 hP hS ?_ ?_
        · exact gw_G_adr.trans gw_G_adr.symm
        · exact ⟨by rfl, fd2, fc2, by rfl⟩
    · skip
      omega

set_option maxHeartbeats 4000000 in
set_option maxRecDepth 100000 in
theorem c_G_allocate_3l (l : Launch) (D : va_G) (ca : Nat → ClassId) (hs : Nat → Nat) (rt : Nat → Int32) (wd : Nat → Int32) (ob : Nat → Nat) (ln : Nat → Nat) (kd : Nat → Nat) (qt : Nat → Bool) (df : Nat → Bool) (mk : Nat → Bool) (fd : Nat → Nat) (fc : Nat) (oc : Nat) (cn : Nat) (hv : iv_a ob ln kd wd oc) (n : Nat) (sl : Bool) (hn1 : 1 ≤ n) (hn2 : n ≤ 128) (hsm : ¬ n ≤ 16) (hr0 : ¬ rm_n ob kd df n false < 512) (hr1 : ¬ rm_n (co_ob ob (co_mk rt wd ob ln qt)) (co_kd kd (co_ob ob (co_mk rt wd ob ln qt))) (co_df rt wd ob ln kd qt) n false < 512) (hr2 : rm_n (co_ob ob (co_mk rt wd ob ln qt)) (co_kd kd (co_ob ob (co_mk rt wd ob ln qt))) (co_df rt wd ob ln kd qt) n true < 512) : Met l y_G_allocate (Cond.code y_G_allocate b_G_allocate 4 (some .int) :: wa_all) (rm_d 6) (va_Pc [.ref (hs 0), .int (nI n), .int (zb_e sl)] (gx_I D cl_all (ty_G ca) (gw_G ca hs rt wd ob ln kd qt df mk fd fc oc cn))) (gx_Q D cl_all (gx_A hs 10) (gw_G ca hs rt wd ob ln kd qt df mk fd fc oc cn) (fun v w' => v = some (.int (nI (4096 + (32 * rm_b (co_kd kd (co_ob ob (co_mk rt wd ob ln qt))) (co_df rt wd ob ln kd qt) true (bk_f n))))) ∧ ∃ (fd2 : Nat → Nat) (fc2 : Nat), w' = gw_G ca hs rt (co_wd wd ob (co_mk rt wd ob ln qt)) (st_ob (co_ob ob (co_mk rt wd ob ln qt)) (32 * rm_b (co_kd kd (co_ob ob (co_mk rt wd ob ln qt))) (co_df rt wd ob ln kd qt) true (bk_f n)) (ss_n n)) (va_up ln (32 * rm_b (co_kd kd (co_ob ob (co_mk rt wd ob ln qt))) (co_df rt wd ob ln kd qt) true (bk_f n)) (ss_n n)) (st_kd (co_kd kd (co_ob ob (co_mk rt wd ob ln qt))) (32 * rm_b (co_kd kd (co_ob ob (co_mk rt wd ob ln qt))) (co_df rt wd ob ln kd qt) true (bk_f n)) (ss_n n) n) (va_up qt (32 * rm_b (co_kd kd (co_ob ob (co_mk rt wd ob ln qt))) (co_df rt wd ob ln kd qt) true (bk_f n)) sl) (st_df (co_df rt wd ob ln kd qt) (32 * rm_b (co_kd kd (co_ob ob (co_mk rt wd ob ln qt))) (co_df rt wd ob ln kd qt) true (bk_f n)) (ss_n n)) (co_mk rt wd ob ln qt) fd2 fc2 (iv_c (co_ob ob (co_mk rt wd ob ln qt)) + 1) (cn + 1))) 0 0 (gx_A hs 10) := by
  refine gx_mutI (by decide) (Nat.le_of_ble_eq_true rfl) gw_G_in ?_
  intro p e s m args below meth c ls Q hx hb hml ht hown hret hP hK hD hS hl
  have hl : lv_has ls 4 [(0, .ref (hs 0)), (1, .int (nI n)), (2, .int (zb_e sl))] := hl
  have hown : s.vm.findClass R_G = some m.cls := hown
  have hk : ∀ b, b < 16 → kd b < 34 := fun b hb => iv_kl hv.2.1 hb
  have ho : ∀ i, i < 512 → ob i < 513 := fun i hi => iv_lt hv.1 hi
  have hP : va_P D cl_all (gw_G ca hs rt wd ob ln kd qt df mk fd fc oc cn) s.heap := hP
  refine lv_iload_n hx hb d_G_allocate_0 rfl (lv_at hl 1 rfl) ?_
  refine lv_iconst (v := nI 1) hx hb d_G_allocate_1 (by decide +kernel) ?_
  refine nx_icmp_lt (tgt := 12) hx hb d_G_allocate_2 (by decide) (by omega) (by omega) (fun h2 => ?_) (fun h2 => ?_)
  · skip
    omega
  · skip
    refine lv_iload_n hx hb d_G_allocate_5 rfl (lv_at hl 1 rfl) ?_
    refine lv_sipush (v := nI 128) hx hb d_G_allocate_6 (by decide +kernel) ?_
    refine nx_icmp_le (tgt := 22) hx hb d_G_allocate_9 (by decide) (by omega) (by omega) (fun h9 => ?_) (fun h9 => ?_)
    · skip
      refine lv_aload_n hx hb d_G_allocate_22 rfl (lv_at hl 0 rfl) ?_
      refine lv_iload_n hx hb d_G_allocate_23 rfl (lv_at hl 1 rfl) ?_
      refine lv_iconst (v := zb_e false) hx hb d_G_allocate_24 (by decide +kernel) ?_
      refine gx_cV (n := 2) (q0 := 0) (ci := 0) (q := (R_G, F_G, 12)) (C := R_G) (own := R_G) (As := [.int (nI n), .int (zb_e false)]) (rest := []) ⟨hx, hb, hml, hown, ht⟩ hg_all (c_G_findRoom l D ca hs (rt) (wd) (ob) (ln) (kd) (qt) (df) (mk) (fd) (fc) (oc) (cn) (n) (by omega) (by omega) (false) (hk) (ho)) wm_253 wm_254 wm_13 wm_34 wm_255 ⟨rfl, by decide, by decide, by decide +kernel⟩ rfl ⟨rfl, rfl⟩ ⟨by decide, by decide⟩ ⟨by decide, by decide⟩ hK hP hD rfl rfl rfl hl.1 rfl (Nat.le_of_ble_eq_true rfl) d_G_allocate_25 ?_
      refine nx_top (show lr_e (rm_n (ob) (kd) (df) (n) false) = -1 from if_neg hr0) ?_
      refine lv_istore_n (lv' := [(3, .int (-1)), (0, .ref (hs 0)), (1, .int (nI n)), (2, .int (zb_e sl))]) hx hb d_G_allocate_28 rfl hl (by decide) rfl (fun ls hl => ?_)
      refine lv_iload_n hx hb d_G_allocate_29 rfl (lv_at hl 0 rfl) ?_
      refine lv_iconst (v := -1) hx hb d_G_allocate_30 (by decide +kernel) ?_
      refine lv_icmp_ne (tgt := 46) hx hb d_G_allocate_31 (by decide) (fun h => absurd rfl h) (fun _ => ?_)
      refine lv_aload_n hx hb d_G_allocate_34 rfl (lv_at hl 1 rfl) ?_
      refine gx_cM (n := 0) (q0 := 0) (ci := 0) (q := (R_G, F_G, 12)) (C := R_G) (own := R_G) (As := []) (rest := []) ⟨hx, hb, hml, hown, ht⟩ hg_all (c_G_collectNow l D ca hs (rt) (wd) (ob) (ln) (kd) (qt) (df) (mk) (fd) (fc) (oc) (cn) hv) wm_98 wm_99 wm_0 wm_34 wm_100 ⟨rfl, by decide, by decide, by decide +kernel⟩ rfl ⟨rfl, rfl⟩ ⟨by decide, by decide⟩ ⟨by decide, by decide⟩ hK hP hD hS (fun _ h => h) rfl rfl rfl hl.1 rfl (Nat.le_of_ble_eq_true rfl) d_G_allocate_35 (fun v w' H locs hZ hP hD hS _ _ => ?_)
      obtain ⟨rfl, fd2, fc2, rfl⟩ := hZ
      have hP : va_P D cl_all (gw_G ca hs rt (co_wd wd ob (co_mk rt wd ob ln qt)) (co_ob ob (co_mk rt wd ob ln qt)) ln (co_kd kd (co_ob ob (co_mk rt wd ob ln qt))) qt (co_df rt wd ob ln kd qt) (co_mk rt wd ob ln qt) fd2 fc2 (iv_c (co_ob ob (co_mk rt wd ob ln qt))) (cn + 1)) H := hP
      have hD : va_D (gx_A hs 10) (gw_G ca hs rt (co_wd wd ob (co_mk rt wd ob ln qt)) (co_ob ob (co_mk rt wd ob ln qt)) ln (co_kd kd (co_ob ob (co_mk rt wd ob ln qt))) qt (co_df rt wd ob ln kd qt) (co_mk rt wd ob ln qt) fd2 fc2 (iv_c (co_ob ob (co_mk rt wd ob ln qt))) (cn + 1)) := hD
      have hv2 := co_iv (co_mk rt wd ob ln qt) hv
      have hk : ∀ b, b < 16 → (co_kd kd (co_ob ob (co_mk rt wd ob ln qt))) b < 34 := fun b hb => iv_kl hv2.2.1 hb
      have ho : ∀ i, i < 512 → (co_ob ob (co_mk rt wd ob ln qt)) i < 513 := fun i hi => iv_lt hv2.1 hi
      refine lv_pop hx hb d_G_allocate_38 rfl ?_
      refine lv_aload_n hx hb d_G_allocate_39 rfl (lv_at hl 1 rfl) ?_
      refine lv_iload_n hx hb d_G_allocate_40 rfl (lv_at hl 2 rfl) ?_
      refine lv_iconst (v := zb_e false) hx hb d_G_allocate_41 (by decide +kernel) ?_
      refine gx_cV (n := 2) (q0 := 0) (ci := 0) (q := (R_G, F_G, 12)) (C := R_G) (own := R_G) (As := [.int (nI n), .int (zb_e false)]) (rest := []) ⟨hx, hb, hml, hown, ht⟩ hg_all (c_G_findRoom l D ca hs (rt) (co_wd wd ob (co_mk rt wd ob ln qt)) (co_ob ob (co_mk rt wd ob ln qt)) (ln) (co_kd kd (co_ob ob (co_mk rt wd ob ln qt))) (qt) (co_df rt wd ob ln kd qt) (co_mk rt wd ob ln qt) (fd2) (fc2) (iv_c (co_ob ob (co_mk rt wd ob ln qt))) (cn + 1) (n) (by omega) (by omega) (false) (hk) (ho)) wm_253 wm_254 wm_13 wm_34 wm_255 ⟨rfl, by decide, by decide, by decide +kernel⟩ rfl ⟨rfl, rfl⟩ ⟨by decide, by decide⟩ ⟨by decide, by decide⟩ hK hP hD rfl rfl rfl hl.1 rfl (Nat.le_of_ble_eq_true rfl) d_G_allocate_42 ?_
      refine nx_top (show lr_e (rm_n (co_ob ob (co_mk rt wd ob ln qt)) (co_kd kd (co_ob ob (co_mk rt wd ob ln qt))) (co_df rt wd ob ln kd qt) (n) false) = -1 from if_neg hr1) ?_
      refine lv_istore_n (lv' := [(3, .int (-1)), (0, .ref (hs 0)), (1, .int (nI n)), (2, .int (zb_e sl))]) hx hb d_G_allocate_45 rfl hl (by decide) rfl (fun ls hl => ?_)
      refine lv_iload_n hx hb d_G_allocate_46 rfl (lv_at hl 0 rfl) ?_
      refine lv_iconst (v := -1) hx hb d_G_allocate_47 (by decide +kernel) ?_
      refine lv_icmp_ne (tgt := 58) hx hb d_G_allocate_48 (by decide) (fun h => absurd rfl h) (fun _ => ?_)
      refine lv_aload_n hx hb d_G_allocate_51 rfl (lv_at hl 1 rfl) ?_
      refine lv_iload_n hx hb d_G_allocate_52 rfl (lv_at hl 2 rfl) ?_
      refine lv_iconst (v := zb_e true) hx hb d_G_allocate_53 (by decide +kernel) ?_
      refine gx_cV (n := 2) (q0 := 0) (ci := 0) (q := (R_G, F_G, 12)) (C := R_G) (own := R_G) (As := [.int (nI n), .int (zb_e true)]) (rest := []) ⟨hx, hb, hml, hown, ht⟩ hg_all (c_G_findRoom l D ca hs (rt) (co_wd wd ob (co_mk rt wd ob ln qt)) (co_ob ob (co_mk rt wd ob ln qt)) (ln) (co_kd kd (co_ob ob (co_mk rt wd ob ln qt))) (qt) (co_df rt wd ob ln kd qt) (co_mk rt wd ob ln qt) (fd2) (fc2) (iv_c (co_ob ob (co_mk rt wd ob ln qt))) (cn + 1) (n) (by omega) (by omega) (true) (hk) (ho)) wm_253 wm_254 wm_13 wm_34 wm_255 ⟨rfl, by decide, by decide, by decide +kernel⟩ rfl ⟨rfl, rfl⟩ ⟨by decide, by decide⟩ ⟨by decide, by decide⟩ hK hP hD rfl rfl rfl hl.1 rfl (Nat.le_of_ble_eq_true rfl) d_G_allocate_54 ?_
      have hok := rm_fact hv2.1 hv2.2.2.1 hn1 hr2
      rw [rm_g hsm] at hok
      have hok1 := hok.1
      have hok3 := hok.2.2.1
      rw [ss_g hsm] at hok1 hok3
      refine nx_top (show lr_e (rm_n (co_ob ob (co_mk rt wd ob ln qt)) (co_kd kd (co_ob ob (co_mk rt wd ob ln qt))) (co_df rt wd ob ln kd qt) n true) = nI (32 * rm_b (co_kd kd (co_ob ob (co_mk rt wd ob ln qt))) (co_df rt wd ob ln kd qt) true (bk_f n)) by rw [← rm_g hsm]; exact if_pos hr2) ?_
      refine lv_istore_n (lv' := [(3, .int (nI (32 * rm_b (co_kd kd (co_ob ob (co_mk rt wd ob ln qt))) (co_df rt wd ob ln kd qt) true (bk_f n)))), (0, .ref (hs 0)), (1, .int (nI n)), (2, .int (zb_e sl))]) hx hb d_G_allocate_57 rfl hl (by decide) rfl (fun ls hl => ?_)
      refine lv_iload_n hx hb d_G_allocate_58 rfl (lv_at hl 0 rfl) ?_
      refine lv_iconst (v := -1) hx hb d_G_allocate_59 (by decide +kernel) ?_
      refine lv_icmp_ne (tgt := 73) hx hb d_G_allocate_60 (by decide) (fun _ => ?_) (fun h => absurd h (zn_m1 (by omega)))
      refine lv_iload_n hx hb d_G_allocate_73 rfl (lv_at hl 2 rfl) ?_
      refine lv_bipush (v := nI 16) hx hb d_G_allocate_74 (by decide +kernel) ?_
      refine nx_icmp_gt (tgt := 92) hx hb d_G_allocate_76 (by decide) (by omega) (by omega) (fun h76 => ?_) (fun h76 => ?_)
      · skip
        refine lv_aload_n hx hb d_G_allocate_92 rfl (lv_at hl 1 rfl) ?_
        refine lv_iload_n hx hb d_G_allocate_93 rfl (lv_at hl 0 rfl) ?_
        refine lv_iload_n hx hb d_G_allocate_94 rfl (lv_at hl 2 rfl) ?_
        refine gx_cS (n := 1) (own := R_G) (As := [.int (nI n)]) (rest := [.int (nI (32 * rm_b (co_kd kd (co_ob ob (co_mk rt wd ob ln qt))) (co_df rt wd ob ln kd qt) true (bk_f n))), .ref (hs 0)]) ⟨hx, hb, hml, hown, ht⟩ hg_all (c_G_blocksFor l (n) (by omega)) wm_256 wm_257 wm_34 wm_258 ⟨rfl, by decide, by decide, by decide +kernel⟩ rfl ⟨rfl, rfl⟩ ⟨by decide, by decide⟩ ⟨by decide, by decide⟩ hl.1 rfl (Nat.le_of_ble_eq_true rfl) d_G_allocate_95 ?_
        refine lv_iload_n hx hb d_G_allocate_98 rfl (lv_at hl 3 rfl) ?_
        refine gx_cM (n := 3) (q0 := 0) (ci := 0) (q := (R_G, F_G, 12)) (C := R_G) (own := R_G) (As := [.int (nI (32 * rm_b (co_kd kd (co_ob ob (co_mk rt wd ob ln qt))) (co_df rt wd ob ln kd qt) true (bk_f n))), .int (nI (bk_f (n))), .int (zb_e sl)]) (rest := []) ⟨hx, hb, hml, hown, ht⟩ hg_all (c_G_placeLarge l D ca hs (rt) (co_wd wd ob (co_mk rt wd ob ln qt)) (co_ob ob (co_mk rt wd ob ln qt)) (ln) (co_kd kd (co_ob ob (co_mk rt wd ob ln qt))) (qt) (co_df rt wd ob ln kd qt) (co_mk rt wd ob ln qt) (fd2) (fc2) (iv_c (co_ob ob (co_mk rt wd ob ln qt))) (cn + 1) (rm_b (co_kd kd (co_ob ob (co_mk rt wd ob ln qt))) (co_df rt wd ob ln kd qt) true (bk_f n)) (bk_f (n)) sl (by unfold bk_f; omega) (by omega)) wm_291 wm_292 wm_19 wm_34 wm_293 ⟨rfl, by decide, by decide, by decide +kernel⟩ rfl ⟨rfl, rfl⟩ ⟨by decide, by decide⟩ ⟨by decide, by decide⟩ hK hP hD hS (fun _ h => h) rfl rfl rfl hl.1 rfl (Nat.le_of_ble_eq_true rfl) d_G_allocate_99 (fun v w' H locs hZ hP hD hS _ _ => ?_)
        obtain ⟨rfl, rfl⟩ := hZ
        have hP : va_P D cl_all (gw_G ca hs rt (co_wd wd ob (co_mk rt wd ob ln qt)) (st_ob (co_ob ob (co_mk rt wd ob ln qt)) (32 * rm_b (co_kd kd (co_ob ob (co_mk rt wd ob ln qt))) (co_df rt wd ob ln kd qt) true (bk_f n)) (bk_f (n) * 32)) (va_up (ln) (32 * rm_b (co_kd kd (co_ob ob (co_mk rt wd ob ln qt))) (co_df rt wd ob ln kd qt) true (bk_f n)) (bk_f (n) * 32)) (st_kd (co_kd kd (co_ob ob (co_mk rt wd ob ln qt))) (32 * rm_b (co_kd kd (co_ob ob (co_mk rt wd ob ln qt))) (co_df rt wd ob ln kd qt) true (bk_f n)) (bk_f (n) * 32) 17) (va_up (qt) (32 * rm_b (co_kd kd (co_ob ob (co_mk rt wd ob ln qt))) (co_df rt wd ob ln kd qt) true (bk_f n)) sl) (st_df (co_df rt wd ob ln kd qt) (32 * rm_b (co_kd kd (co_ob ob (co_mk rt wd ob ln qt))) (co_df rt wd ob ln kd qt) true (bk_f n)) (bk_f (n) * 32)) (co_mk rt wd ob ln qt) fd2 fc2 (iv_c (co_ob ob (co_mk rt wd ob ln qt)) + 1) (cn + 1)) H := hP
        have hD : va_D (gx_A hs 10) (gw_G ca hs rt (co_wd wd ob (co_mk rt wd ob ln qt)) (st_ob (co_ob ob (co_mk rt wd ob ln qt)) (32 * rm_b (co_kd kd (co_ob ob (co_mk rt wd ob ln qt))) (co_df rt wd ob ln kd qt) true (bk_f n)) (bk_f (n) * 32)) (va_up (ln) (32 * rm_b (co_kd kd (co_ob ob (co_mk rt wd ob ln qt))) (co_df rt wd ob ln kd qt) true (bk_f n)) (bk_f (n) * 32)) (st_kd (co_kd kd (co_ob ob (co_mk rt wd ob ln qt))) (32 * rm_b (co_kd kd (co_ob ob (co_mk rt wd ob ln qt))) (co_df rt wd ob ln kd qt) true (bk_f n)) (bk_f (n) * 32) 17) (va_up (qt) (32 * rm_b (co_kd kd (co_ob ob (co_mk rt wd ob ln qt))) (co_df rt wd ob ln kd qt) true (bk_f n)) sl) (st_df (co_df rt wd ob ln kd qt) (32 * rm_b (co_kd kd (co_ob ob (co_mk rt wd ob ln qt))) (co_df rt wd ob ln kd qt) true (bk_f n)) (bk_f (n) * 32)) (co_mk rt wd ob ln qt) fd2 fc2 (iv_c (co_ob ob (co_mk rt wd ob ln qt)) + 1) (cn + 1)) := hD
        rw [sk_g hsm, ← ss_g hsm] at hP hD
        have hP : va_P D cl_all (gw_G ca hs rt (co_wd wd ob (co_mk rt wd ob ln qt)) (st_ob (co_ob ob (co_mk rt wd ob ln qt)) (32 * rm_b (co_kd kd (co_ob ob (co_mk rt wd ob ln qt))) (co_df rt wd ob ln kd qt) true (bk_f n)) (ss_n n)) (va_up ln (32 * rm_b (co_kd kd (co_ob ob (co_mk rt wd ob ln qt))) (co_df rt wd ob ln kd qt) true (bk_f n)) (ss_n n)) (st_kd (co_kd kd (co_ob ob (co_mk rt wd ob ln qt))) (32 * rm_b (co_kd kd (co_ob ob (co_mk rt wd ob ln qt))) (co_df rt wd ob ln kd qt) true (bk_f n)) (ss_n n) n) (va_up qt (32 * rm_b (co_kd kd (co_ob ob (co_mk rt wd ob ln qt))) (co_df rt wd ob ln kd qt) true (bk_f n)) sl) (st_df (co_df rt wd ob ln kd qt) (32 * rm_b (co_kd kd (co_ob ob (co_mk rt wd ob ln qt))) (co_df rt wd ob ln kd qt) true (bk_f n)) (ss_n n)) (co_mk rt wd ob ln qt) fd2 fc2 (iv_c (co_ob ob (co_mk rt wd ob ln qt)) + 1) (cn + 1)) H := hP
        have hD : va_D (gx_A hs 10) (gw_G ca hs rt (co_wd wd ob (co_mk rt wd ob ln qt)) (st_ob (co_ob ob (co_mk rt wd ob ln qt)) (32 * rm_b (co_kd kd (co_ob ob (co_mk rt wd ob ln qt))) (co_df rt wd ob ln kd qt) true (bk_f n)) (ss_n n)) (va_up ln (32 * rm_b (co_kd kd (co_ob ob (co_mk rt wd ob ln qt))) (co_df rt wd ob ln kd qt) true (bk_f n)) (ss_n n)) (st_kd (co_kd kd (co_ob ob (co_mk rt wd ob ln qt))) (32 * rm_b (co_kd kd (co_ob ob (co_mk rt wd ob ln qt))) (co_df rt wd ob ln kd qt) true (bk_f n)) (ss_n n) n) (va_up qt (32 * rm_b (co_kd kd (co_ob ob (co_mk rt wd ob ln qt))) (co_df rt wd ob ln kd qt) true (bk_f n)) sl) (st_df (co_df rt wd ob ln kd qt) (32 * rm_b (co_kd kd (co_ob ob (co_mk rt wd ob ln qt))) (co_df rt wd ob ln kd qt) true (bk_f n)) (ss_n n)) (co_mk rt wd ob ln qt) fd2 fc2 (iv_c (co_ob ob (co_mk rt wd ob ln qt)) + 1) (cn + 1)) := hD
        refine lv_sipush (v := nI 4096) hx hb d_G_allocate_102 (by decide +kernel) ?_
        refine lv_iload_n hx hb d_G_allocate_105 rfl (lv_at hl 0 rfl) ?_
        refine nx_iadd hx hb d_G_allocate_106 ?_
        refine hret 107 ls (nI (4096 + (32 * rm_b (co_kd kd (co_ob ob (co_mk rt wd ob ln qt))) (co_df rt wd ob ln kd qt) true (bk_f n)))) _ _ _ d_G_allocate_107 hP hS ?_ ?_
        · exact gw_G_adr.trans gw_G_adr.symm
        · exact ⟨by rfl, fd2, fc2, by rfl⟩
      · skip
        omega
    · skip
      omega

