/-! the reference: its public methods -/
def ro_b (w : Int32) : Bool := decide (0 ≤ w.toInt ∧ w.toInt < 8)
theorem ro_t {w : Int32} (h1 : ¬ w < 0) (h2 : w ≤ nI 7) : ro_b w = true := by
  rw [Int32.lt_iff_toInt_lt, Int32.toInt_zero] at h1
  rw [Int32.le_iff_toInt_le, nI_toInt (by omega)] at h2
  exact decide_eq_true ⟨by omega, by omega⟩
theorem ro_t2 {w : Int32} (h1 : ¬ w < 0) (h2 : w < nI 8) : ro_b w = true := by
  rw [Int32.lt_iff_toInt_lt, Int32.toInt_zero] at h1
  rw [Int32.lt_iff_toInt_lt, nI_toInt (by omega)] at h2
  exact decide_eq_true ⟨by omega, by omega⟩
theorem ro_l {w : Int32} (h : ro_b w = true) : ∃ r, r < 8 ∧ w = nI r := by
  have h1 : 0 ≤ w.toInt ∧ w.toInt < 8 := of_decide_eq_true h
  refine ⟨w.toInt.toNat, by omega, Int32.toInt_inj.mp ?_⟩
  rw [nI_toInt (by omega)]
  omega
def rg_b (w : Int32) : Bool := decide (1 ≤ w.toInt ∧ w.toInt ≤ 128)
theorem rg_t {w : Int32} (h1 : ¬ w < nI 1) (h2 : w ≤ nI 128) : rg_b w = true := by
  rw [Int32.lt_iff_toInt_lt, nI_toInt (by omega)] at h1
  rw [Int32.le_iff_toInt_le, nI_toInt (by omega)] at h2
  exact decide_eq_true ⟨by omega, by omega⟩
theorem rg_l {w : Int32} (h : rg_b w = true) : ∃ n, 1 ≤ n ∧ n ≤ 128 ∧ w = nI n := by
  have h1 : 1 ≤ w.toInt ∧ w.toInt ≤ 128 := of_decide_eq_true h
  refine ⟨w.toInt.toNat, by omega, by omega, Int32.toInt_inj.mp ?_⟩
  rw [nI_toInt (by omega)]
  omega
theorem bk_t2 {w : Int32} (h1 : ¬ w < 0) (h2 : w ≤ nI 15) : bk_b w = true := by
  rw [Int32.lt_iff_toInt_lt, Int32.toInt_zero] at h1
  rw [Int32.le_iff_toInt_le, nI_toInt (by omega)] at h2
  exact decide_eq_true ⟨by omega, by omega⟩
theorem bk_t3 {w : Int32} (h1 : ¬ w < 0) (h2 : ¬ nI 15 < w) : bk_b w = true := by
  rw [Int32.lt_iff_toInt_lt, Int32.toInt_zero] at h1
  rw [Int32.lt_iff_toInt_lt, nI_toInt (by omega)] at h2
  exact decide_eq_true ⟨by omega, by omega⟩
theorem em_eq {ob ln kd : Nat → Nat} (ho : iv_o ob ln kd) (hk : iv_k kd) {b : Nat} (hb : b < 16) (h0 : kd b ≠ 0) (h32 : kd b < 32) : em_n ob kd b = es_n ob kd b := by
  have hs : kd b = 2 ∨ kd b = 4 ∨ kd b = 8 ∨ kd b = 16 := by have := hk b hb; omega
  unfold em_n
  rw [if_pos (by omega), es_eq ho hb hs, Nat.mul_div_cancel _ (by omega)]
theorem em_0 {ob kd : Nat → Nat} {b : Nat} (h : kd b = 0 ∨ 32 ≤ kd b) : em_n ob kd b = 0 := by
  unfold em_n
  rw [if_neg (by omega)]
set_option maxHeartbeats 4000000 in
set_option maxRecDepth 100000 in
theorem c_M_allocate_out (l : Launch) (D : va_G) (ca : Nat → ClassId) (hs : Nat → Nat) (rt : Nat → Int32) (wd : Nat → Int32) (ob : Nat → Nat) (ln : Nat → Nat) (kd : Nat → Nat) (qt : Nat → Bool) (df : Nat → Bool) (mk : Nat → Bool) (th : Nat) (cn : Nat) (gv : Nat) (w : Int32) (hw : rg_b w = false) (sl : Bool) : Met l y_M_allocate (Cond.code y_M_allocate b_M_allocate 4 (some .int) :: wa_all) (rm_d 5) (va_Pc [.ref (hs 0), .int (w), .int (zb_e sl)] (gx_I D cl_all (ty_M ca) (gw_M ca hs rt wd ob ln kd qt df mk th cn gv))) (gx_Q D cl_all (gx_A hs 9) (gw_M ca hs rt wd ob ln kd qt df mk th cn gv) (fun v w' => v = some (.int (nI 0)) ∧ w' = gw_M ca hs rt wd ob ln kd qt df mk 1 cn gv)) 0 0 (gx_A hs 9) := by
  refine gx_mutI (by decide) (Nat.le_of_ble_eq_true rfl) gw_M_in ?_
  intro p e s m args below meth c ls Q hx hb hml ht hown hret hP hK hD hS hl
  have hl : lv_has ls 4 [(0, .ref (hs 0)), (1, .int (w)), (2, .int (zb_e sl))] := hl
  have hown : s.vm.findClass R_M = some m.cls := hown
  have hP : va_P D cl_all (gw_M ca hs rt wd ob ln kd qt df mk th cn gv) s.heap := hP
  refine lv_aload_n hx hb d_M_allocate_0 rfl (lv_at hl 0 rfl) ?_
  refine lv_iload_n hx hb d_M_allocate_1 rfl (lv_at hl 1 rfl) ?_
  refine lv_iconst (v := nI 1) hx hb d_M_allocate_2 (by decide +kernel) ?_
  refine lv_icmp_lt (tgt := 13) hx hb d_M_allocate_3 (by decide) (fun h3 => ?_) (fun h3 => ?_)
  · skip
    refine lv_iconst (v := nI 1) hx hb d_M_allocate_13 (by decide +kernel) ?_
    refine lv_goto (tgt := 18) hx hb d_M_allocate_14 (by decide) ?_
    refine va_put (D := D) (ci := 1) (v := .int (nI 1)) (ty := .int) (C := R_M) (T := F_M) (N := 11) hx hb ht in_M t_M t_M_ok n_M_ne hown hK hP hD hS 0 rfl rfl 0 (by decide) (ht _ wm_346) (fun _ h9 => h9) rfl (by decide +kernel) rfl rfl (Nat.le_of_ble_eq_true rfl) d_M_allocate_18 (fun H locs hP hD hS => ?_)
    have hP : va_P D cl_all (gw_M ca hs rt wd ob ln kd qt df mk 1 cn gv) H := hP
    have hD : va_D (gx_A hs 9) (gw_M ca hs rt wd ob ln kd qt df mk 1 cn gv) := hD
    refine lv_aload_n hx hb d_M_allocate_21 rfl (lv_at hl 0 rfl) ?_
    refine va_get (D := D) (ci := 1) (v := .int (nI 1)) (C := R_M) (T := F_M) (N := 11) hx hb ht in_M hown hK hP 0 rfl rfl 0 (by decide) (ht _ wm_346) (fun _ h9 => h9) rfl d_M_allocate_22 ?_
    refine nx_if_le (tgt := 30) hx hb d_M_allocate_25 (by decide) (by omega) (fun h25 => ?_) (fun h25 => ?_)
    · skip
      omega
    · skip
      refine lv_iconst (v := nI 0) hx hb d_M_allocate_28 (by decide +kernel) ?_
      refine hret 29 ls (nI 0) _ _ _ d_M_allocate_29 hP hS ?_ ?_
      · exact gw_M_adr.trans gw_M_adr.symm
      · exact ⟨by rfl, by rfl⟩
  · skip
    refine lv_iload_n hx hb d_M_allocate_6 rfl (lv_at hl 1 rfl) ?_
    refine lv_sipush (v := nI 128) hx hb d_M_allocate_7 (by decide +kernel) ?_
    refine lv_icmp_le (tgt := 17) hx hb d_M_allocate_10 (by decide) (fun h10 => ?_) (fun h10 => ?_)
    · skip
      rw [rg_t h3 h10] at hw
      cases hw
    · skip
      refine lv_iconst (v := nI 1) hx hb d_M_allocate_13 (by decide +kernel) ?_
      refine lv_goto (tgt := 18) hx hb d_M_allocate_14 (by decide) ?_
      refine va_put (D := D) (ci := 1) (v := .int (nI 1)) (ty := .int) (C := R_M) (T := F_M) (N := 11) hx hb ht in_M t_M t_M_ok n_M_ne hown hK hP hD hS 0 rfl rfl 0 (by decide) (ht _ wm_346) (fun _ h9 => h9) rfl (by decide +kernel) rfl rfl (Nat.le_of_ble_eq_true rfl) d_M_allocate_18 (fun H locs hP hD hS => ?_)
      have hP : va_P D cl_all (gw_M ca hs rt wd ob ln kd qt df mk 1 cn gv) H := hP
      have hD : va_D (gx_A hs 9) (gw_M ca hs rt wd ob ln kd qt df mk 1 cn gv) := hD
      refine lv_aload_n hx hb d_M_allocate_21 rfl (lv_at hl 0 rfl) ?_
      refine va_get (D := D) (ci := 1) (v := .int (nI 1)) (C := R_M) (T := F_M) (N := 11) hx hb ht in_M hown hK hP 0 rfl rfl 0 (by decide) (ht _ wm_346) (fun _ h9 => h9) rfl d_M_allocate_22 ?_
      refine nx_if_le (tgt := 30) hx hb d_M_allocate_25 (by decide) (by omega) (fun h25 => ?_) (fun h25 => ?_)
      · skip
        omega
      · skip
        refine lv_iconst (v := nI 0) hx hb d_M_allocate_28 (by decide +kernel) ?_
        refine hret 29 ls (nI 0) _ _ _ d_M_allocate_29 hP hS ?_ ?_
        · exact gw_M_adr.trans gw_M_adr.symm
        · exact ⟨by rfl, by rfl⟩

set_option maxHeartbeats 4000000 in
set_option maxRecDepth 100000 in
theorem c_M_allocate_1 (l : Launch) (D : va_G) (ca : Nat → ClassId) (hs : Nat → Nat) (rt : Nat → Int32) (wd : Nat → Int32) (ob : Nat → Nat) (ln : Nat → Nat) (kd : Nat → Nat) (qt : Nat → Bool) (df : Nat → Bool) (mk : Nat → Bool) (th : Nat) (cn : Nat) (gv : Nat) (hv : iv_a ob ln kd wd (iv_c ob)) (n : Nat) (sl : Bool) (hn1 : 1 ≤ n) (hn2 : n ≤ 128) (hr0 : rm_n ob kd df n false < 512) : Met l y_M_allocate (Cond.code y_M_allocate b_M_allocate 4 (some .int) :: wa_all) (rm_d 5) (va_Pc [.ref (hs 0), .int (nI n), .int (zb_e sl)] (gx_I D cl_all (ty_M ca) (gw_M ca hs rt wd ob ln kd qt df mk th cn gv))) (gx_Q D cl_all (gx_A hs 9) (gw_M ca hs rt wd ob ln kd qt df mk th cn gv) (fun v w' => v = some (.int (nI (4096 + rm_n (ob) (kd) (df) n false))) ∧ w' = gw_M ca hs rt wd (st_ob (ob) (rm_n (ob) (kd) (df) n false) (ss_n n)) (va_up ln (rm_n (ob) (kd) (df) n false) (ss_n n)) (st_kd (kd) (rm_n (ob) (kd) (df) n false) (ss_n n) n) (va_up qt (rm_n (ob) (kd) (df) n false) sl) (st_df (df) (rm_n (ob) (kd) (df) n false) (ss_n n)) mk 0 cn gv)) 0 0 (gx_A hs 9) := by
  refine gx_mutI (by decide) (Nat.le_of_ble_eq_true rfl) gw_M_in ?_
  intro p e s m args below meth c ls Q hx hb hml ht hown hret hP hK hD hS hl
  have hl : lv_has ls 4 [(0, .ref (hs 0)), (1, .int (nI n)), (2, .int (zb_e sl))] := hl
  have hown : s.vm.findClass R_M = some m.cls := hown
  have hk : ∀ b, b < 16 → kd b < 34 := fun b hb => iv_kl hv.2.1 hb
  have hov := hv.1
  have ho : ∀ i, i < 512 → ob i < 513 := fun i hi => iv_lt hv.1 hi
  have hP : va_P D cl_all (gw_M ca hs rt wd ob ln kd qt df mk th cn gv) s.heap := hP
  refine lv_aload_n hx hb d_M_allocate_0 rfl (lv_at hl 0 rfl) ?_
  refine lv_iload_n hx hb d_M_allocate_1 rfl (lv_at hl 1 rfl) ?_
  refine lv_iconst (v := nI 1) hx hb d_M_allocate_2 (by decide +kernel) ?_
  refine nx_icmp_lt (tgt := 13) hx hb d_M_allocate_3 (by decide) (by omega) (by omega) (fun h3 => ?_) (fun h3 => ?_)
  · skip
    omega
  · skip
    refine lv_iload_n hx hb d_M_allocate_6 rfl (lv_at hl 1 rfl) ?_
    refine lv_sipush (v := nI 128) hx hb d_M_allocate_7 (by decide +kernel) ?_
    refine nx_icmp_le (tgt := 17) hx hb d_M_allocate_10 (by decide) (by omega) (by omega) (fun h10 => ?_) (fun h10 => ?_)
    · skip
      refine lv_iconst (v := nI 0) hx hb d_M_allocate_17 (by decide +kernel) ?_
      refine va_put (D := D) (ci := 1) (v := .int (nI 0)) (ty := .int) (C := R_M) (T := F_M) (N := 11) hx hb ht in_M t_M t_M_ok n_M_ne hown hK hP hD hS 0 rfl rfl 0 (by decide) (ht _ wm_346) (fun _ h9 => h9) rfl (by decide +kernel) rfl rfl (Nat.le_of_ble_eq_true rfl) d_M_allocate_18 (fun H locs hP hD hS => ?_)
      have hP : va_P D cl_all (gw_M ca hs rt wd ob ln kd qt df mk 0 cn gv) H := hP
      have hD : va_D (gx_A hs 9) (gw_M ca hs rt wd ob ln kd qt df mk 0 cn gv) := hD
      refine lv_aload_n hx hb d_M_allocate_21 rfl (lv_at hl 0 rfl) ?_
      refine va_get (D := D) (ci := 1) (v := .int (nI 0)) (C := R_M) (T := F_M) (N := 11) hx hb ht in_M hown hK hP 0 rfl rfl 0 (by decide) (ht _ wm_346) (fun _ h9 => h9) rfl d_M_allocate_22 ?_
      refine nx_if_le (tgt := 30) hx hb d_M_allocate_25 (by decide) (by omega) (fun h25 => ?_) (fun h25 => ?_)
      · skip
        refine lv_aload_n hx hb d_M_allocate_30 rfl (lv_at hl 0 rfl) ?_
        refine lv_iload_n hx hb d_M_allocate_31 rfl (lv_at hl 1 rfl) ?_
        refine lv_iconst (v := zb_e false) hx hb d_M_allocate_32 (by decide +kernel) ?_
        refine gx_cV (n := 2) (q0 := 0) (ci := 1) (q := (R_M, F_M, 11)) (C := R_M) (own := R_M) (As := [.int (nI n), .int (zb_e false)]) (rest := []) ⟨hx, hb, hml, hown, ht⟩ hg_all (c_M_room l D ca hs (rt) (wd) (ob) (ln) (kd) (qt) (df) (mk) (0) (cn) (gv) n hn1 hn2 false hk hov) wm_388 wm_389 wm_21 wm_36 wm_390 ⟨rfl, by decide, by decide, by decide +kernel⟩ rfl ⟨rfl, rfl⟩ ⟨by decide, by decide⟩ ⟨by decide, by decide⟩ hK hP hD rfl rfl rfl hl.1 rfl (Nat.le_of_ble_eq_true rfl) d_M_allocate_33 ?_
        refine nx_top (show lr_e (rm_n (ob) (kd) (df) n false) = nI (rm_n (ob) (kd) (df) n false) from if_pos hr0) ?_
        refine lv_istore_n (lv' := [(3, .int (nI (rm_n (ob) (kd) (df) n false))), (0, .ref (hs 0)), (1, .int (nI n)), (2, .int (zb_e sl))]) hx hb d_M_allocate_36 rfl hl (by decide) rfl (fun ls hl => ?_)
        refine lv_iload_n hx hb d_M_allocate_37 rfl (lv_at hl 0 rfl) ?_
        refine lv_if_ge (tgt := 67) hx hb d_M_allocate_38 (by decide) (fun _ => ?_) (fun h => absurd (nI_pos' (by omega)) h)
        refine lv_iload_n hx hb d_M_allocate_67 rfl (lv_at hl 0 rfl) ?_
        refine lv_if_ge (tgt := 78) hx hb d_M_allocate_68 (by decide) (fun _ => ?_) (fun h => absurd (nI_pos' (by omega)) h)
        refine lv_aload_n hx hb d_M_allocate_78 rfl (lv_at hl 1 rfl) ?_
        refine lv_iload_n hx hb d_M_allocate_79 rfl (lv_at hl 0 rfl) ?_
        refine lv_iload_n hx hb d_M_allocate_80 rfl (lv_at hl 2 rfl) ?_
        refine lv_iload_n hx hb d_M_allocate_81 rfl (lv_at hl 3 rfl) ?_
        have hok := rm_fact hv.1 hv.2.2.1 hn1 hr0
        refine gx_cM (n := 3) (q0 := 0) (ci := 1) (q := (R_M, F_M, 11)) (C := R_M) (own := R_M) (As := [.int (nI (rm_n (ob) (kd) (df) n false)), .int (nI n), .int (zb_e sl)]) (rest := []) ⟨hx, hb, hml, hown, ht⟩ hg_all (c_M_settle l D ca hs (rt) (wd) (ob) (ln) (kd) (qt) (df) (mk) (0) (cn) (gv) (rm_n (ob) (kd) (df) n false) n sl hn1 hn2 hok hv.2.2.2.2.1) wm_424 wm_425 wm_31 wm_36 wm_426 ⟨rfl, by decide, by decide, by decide +kernel⟩ rfl ⟨rfl, rfl⟩ ⟨by decide, by decide⟩ ⟨by decide, by decide⟩ hK hP hD hS (fun _ h => h) rfl rfl rfl hl.1 rfl (Nat.le_of_ble_eq_true rfl) d_M_allocate_82 (fun v w' H locs hZ hP hD hS _ _ => ?_)
        obtain ⟨rfl, rfl⟩ := hZ
        have hP : va_P D cl_all (gw_M ca hs rt wd (st_ob (ob) (rm_n (ob) (kd) (df) n false) (ss_n n)) (va_up (ln) (rm_n (ob) (kd) (df) n false) (ss_n n)) (st_kd (kd) (rm_n (ob) (kd) (df) n false) (ss_n n) n) (va_up (qt) (rm_n (ob) (kd) (df) n false) sl) (st_df (df) (rm_n (ob) (kd) (df) n false) (ss_n n)) mk 0 cn gv) H := hP
        have hD : va_D (gx_A hs 9) (gw_M ca hs rt wd (st_ob (ob) (rm_n (ob) (kd) (df) n false) (ss_n n)) (va_up (ln) (rm_n (ob) (kd) (df) n false) (ss_n n)) (st_kd (kd) (rm_n (ob) (kd) (df) n false) (ss_n n) n) (va_up (qt) (rm_n (ob) (kd) (df) n false) sl) (st_df (df) (rm_n (ob) (kd) (df) n false) (ss_n n)) mk 0 cn gv) := hD
        refine lv_sipush (v := nI 4096) hx hb d_M_allocate_85 (by decide +kernel) ?_
        refine lv_iload_n hx hb d_M_allocate_88 rfl (lv_at hl 0 rfl) ?_
        refine nx_iadd hx hb d_M_allocate_89 ?_
        refine hret 90 ls (nI (4096 + (rm_n (ob) (kd) (df) n false))) _ _ _ d_M_allocate_90 hP hS ?_ ?_
        · exact gw_M_adr.trans gw_M_adr.symm
        · exact ⟨by rfl, by rfl⟩
      · skip
        exact absurd rfl h25
    · skip
      omega

set_option maxHeartbeats 4000000 in
set_option maxRecDepth 100000 in
theorem c_M_allocate_2 (l : Launch) (D : va_G) (ca : Nat → ClassId) (hs : Nat → Nat) (rt : Nat → Int32) (wd : Nat → Int32) (ob : Nat → Nat) (ln : Nat → Nat) (kd : Nat → Nat) (qt : Nat → Bool) (df : Nat → Bool) (mk : Nat → Bool) (th : Nat) (cn : Nat) (gv : Nat) (hv : iv_a ob ln kd wd (iv_c ob)) (n : Nat) (sl : Bool) (hn1 : 1 ≤ n) (hn2 : n ≤ 128) (hr0 : ¬ rm_n ob kd df n false < 512) (hr1 : rm_n (co_ob ob (co_mk rt wd ob ln qt)) (co_kd kd (co_ob ob (co_mk rt wd ob ln qt))) (co_df rt wd ob ln kd qt) n false < 512) : Met l y_M_allocate (Cond.code y_M_allocate b_M_allocate 4 (some .int) :: wa_all) (rm_d 5) (va_Pc [.ref (hs 0), .int (nI n), .int (zb_e sl)] (gx_I D cl_all (ty_M ca) (gw_M ca hs rt wd ob ln kd qt df mk th cn gv))) (gx_Q D cl_all (gx_A hs 9) (gw_M ca hs rt wd ob ln kd qt df mk th cn gv) (fun v w' => v = some (.int (nI (4096 + rm_n (co_ob ob (co_mk rt wd ob ln qt)) (co_kd kd (co_ob ob (co_mk rt wd ob ln qt))) (co_df rt wd ob ln kd qt) n false))) ∧ w' = gw_M ca hs rt (co_wd wd ob (co_mk rt wd ob ln qt)) (st_ob (co_ob ob (co_mk rt wd ob ln qt)) (rm_n (co_ob ob (co_mk rt wd ob ln qt)) (co_kd kd (co_ob ob (co_mk rt wd ob ln qt))) (co_df rt wd ob ln kd qt) n false) (ss_n n)) (va_up ln (rm_n (co_ob ob (co_mk rt wd ob ln qt)) (co_kd kd (co_ob ob (co_mk rt wd ob ln qt))) (co_df rt wd ob ln kd qt) n false) (ss_n n)) (st_kd (co_kd kd (co_ob ob (co_mk rt wd ob ln qt))) (rm_n (co_ob ob (co_mk rt wd ob ln qt)) (co_kd kd (co_ob ob (co_mk rt wd ob ln qt))) (co_df rt wd ob ln kd qt) n false) (ss_n n) n) (va_up qt (rm_n (co_ob ob (co_mk rt wd ob ln qt)) (co_kd kd (co_ob ob (co_mk rt wd ob ln qt))) (co_df rt wd ob ln kd qt) n false) sl) (st_df (co_df rt wd ob ln kd qt) (rm_n (co_ob ob (co_mk rt wd ob ln qt)) (co_kd kd (co_ob ob (co_mk rt wd ob ln qt))) (co_df rt wd ob ln kd qt) n false) (ss_n n)) (co_mk rt wd ob ln qt) 0 (cn + 1) (iv_c ob - iv_c (co_ob ob (co_mk rt wd ob ln qt))))) 0 0 (gx_A hs 9) := by
  refine gx_mutI (by decide) (Nat.le_of_ble_eq_true rfl) gw_M_in ?_
  intro p e s m args below meth c ls Q hx hb hml ht hown hret hP hK hD hS hl
  have hl : lv_has ls 4 [(0, .ref (hs 0)), (1, .int (nI n)), (2, .int (zb_e sl))] := hl
  have hown : s.vm.findClass R_M = some m.cls := hown
  have hk : ∀ b, b < 16 → kd b < 34 := fun b hb => iv_kl hv.2.1 hb
  have hov := hv.1
  have ho : ∀ i, i < 512 → ob i < 513 := fun i hi => iv_lt hv.1 hi
  have hP : va_P D cl_all (gw_M ca hs rt wd ob ln kd qt df mk th cn gv) s.heap := hP
  refine lv_aload_n hx hb d_M_allocate_0 rfl (lv_at hl 0 rfl) ?_
  refine lv_iload_n hx hb d_M_allocate_1 rfl (lv_at hl 1 rfl) ?_
  refine lv_iconst (v := nI 1) hx hb d_M_allocate_2 (by decide +kernel) ?_
  refine nx_icmp_lt (tgt := 13) hx hb d_M_allocate_3 (by decide) (by omega) (by omega) (fun h3 => ?_) (fun h3 => ?_)
  · skip
    omega
  · skip
    refine lv_iload_n hx hb d_M_allocate_6 rfl (lv_at hl 1 rfl) ?_
    refine lv_sipush (v := nI 128) hx hb d_M_allocate_7 (by decide +kernel) ?_
    refine nx_icmp_le (tgt := 17) hx hb d_M_allocate_10 (by decide) (by omega) (by omega) (fun h10 => ?_) (fun h10 => ?_)
    · skip
      refine lv_iconst (v := nI 0) hx hb d_M_allocate_17 (by decide +kernel) ?_
      refine va_put (D := D) (ci := 1) (v := .int (nI 0)) (ty := .int) (C := R_M) (T := F_M) (N := 11) hx hb ht in_M t_M t_M_ok n_M_ne hown hK hP hD hS 0 rfl rfl 0 (by decide) (ht _ wm_346) (fun _ h9 => h9) rfl (by decide +kernel) rfl rfl (Nat.le_of_ble_eq_true rfl) d_M_allocate_18 (fun H locs hP hD hS => ?_)
      have hP : va_P D cl_all (gw_M ca hs rt wd ob ln kd qt df mk 0 cn gv) H := hP
      have hD : va_D (gx_A hs 9) (gw_M ca hs rt wd ob ln kd qt df mk 0 cn gv) := hD
      refine lv_aload_n hx hb d_M_allocate_21 rfl (lv_at hl 0 rfl) ?_
      refine va_get (D := D) (ci := 1) (v := .int (nI 0)) (C := R_M) (T := F_M) (N := 11) hx hb ht in_M hown hK hP 0 rfl rfl 0 (by decide) (ht _ wm_346) (fun _ h9 => h9) rfl d_M_allocate_22 ?_
      refine nx_if_le (tgt := 30) hx hb d_M_allocate_25 (by decide) (by omega) (fun h25 => ?_) (fun h25 => ?_)
      · skip
        refine lv_aload_n hx hb d_M_allocate_30 rfl (lv_at hl 0 rfl) ?_
        refine lv_iload_n hx hb d_M_allocate_31 rfl (lv_at hl 1 rfl) ?_
        refine lv_iconst (v := zb_e false) hx hb d_M_allocate_32 (by decide +kernel) ?_
        refine gx_cV (n := 2) (q0 := 0) (ci := 1) (q := (R_M, F_M, 11)) (C := R_M) (own := R_M) (As := [.int (nI n), .int (zb_e false)]) (rest := []) ⟨hx, hb, hml, hown, ht⟩ hg_all (c_M_room l D ca hs (rt) (wd) (ob) (ln) (kd) (qt) (df) (mk) (0) (cn) (gv) n hn1 hn2 false hk hov) wm_388 wm_389 wm_21 wm_36 wm_390 ⟨rfl, by decide, by decide, by decide +kernel⟩ rfl ⟨rfl, rfl⟩ ⟨by decide, by decide⟩ ⟨by decide, by decide⟩ hK hP hD rfl rfl rfl hl.1 rfl (Nat.le_of_ble_eq_true rfl) d_M_allocate_33 ?_
        refine nx_top (show lr_e (rm_n (ob) (kd) (df) n false) = -1 from if_neg hr0) ?_
        refine lv_istore_n (lv' := [(3, .int (-1)), (0, .ref (hs 0)), (1, .int (nI n)), (2, .int (zb_e sl))]) hx hb d_M_allocate_36 rfl hl (by decide) rfl (fun ls hl => ?_)
        refine lv_iload_n hx hb d_M_allocate_37 rfl (lv_at hl 0 rfl) ?_
        refine lv_if_ge (tgt := 67) hx hb d_M_allocate_38 (by decide) (fun h => absurd h (by decide)) (fun _ => ?_)
        refine lv_aload_n hx hb d_M_allocate_41 rfl (lv_at hl 1 rfl) ?_
        refine gx_cM (n := 0) (q0 := 0) (ci := 1) (q := (R_M, F_M, 11)) (C := R_M) (own := R_M) (As := []) (rest := []) ⟨hx, hb, hml, hown, ht⟩ hg_all (c_M_gather l D ca hs (rt) (wd) (ob) (ln) (kd) (qt) (df) (mk) (0) (cn) (gv) hv) wm_403 wm_404 wm_25 wm_36 wm_405 ⟨rfl, by decide, by decide, by decide +kernel⟩ rfl ⟨rfl, rfl⟩ ⟨by decide, by decide⟩ ⟨by decide, by decide⟩ hK hP hD hS (fun _ h => h) rfl rfl rfl hl.1 rfl (Nat.le_of_ble_eq_true rfl) d_M_allocate_42 (fun v w' H locs hZ hP hD hS _ _ => ?_)
        obtain ⟨rfl, rfl⟩ := hZ
        have hP : va_P D cl_all (gw_M ca hs rt (co_wd wd ob (co_mk rt wd ob ln qt)) (co_ob ob (co_mk rt wd ob ln qt)) ln (co_kd kd (co_ob ob (co_mk rt wd ob ln qt))) qt (co_df rt wd ob ln kd qt) (co_mk rt wd ob ln qt) 0 (cn + 1) (iv_c ob - iv_c (co_ob ob (co_mk rt wd ob ln qt)))) H := hP
        have hD : va_D (gx_A hs 9) (gw_M ca hs rt (co_wd wd ob (co_mk rt wd ob ln qt)) (co_ob ob (co_mk rt wd ob ln qt)) ln (co_kd kd (co_ob ob (co_mk rt wd ob ln qt))) qt (co_df rt wd ob ln kd qt) (co_mk rt wd ob ln qt) 0 (cn + 1) (iv_c ob - iv_c (co_ob ob (co_mk rt wd ob ln qt)))) := hD
        have hv2 := co_iv (co_mk rt wd ob ln qt) hv
        have hk : ∀ b, b < 16 → (co_kd kd (co_ob ob (co_mk rt wd ob ln qt))) b < 34 := fun b hb => iv_kl hv2.2.1 hb
        have hov := hv2.1
        refine lv_aload_n hx hb d_M_allocate_45 rfl (lv_at hl 1 rfl) ?_
        refine lv_iload_n hx hb d_M_allocate_46 rfl (lv_at hl 2 rfl) ?_
        refine lv_iconst (v := zb_e false) hx hb d_M_allocate_47 (by decide +kernel) ?_
        refine gx_cV (n := 2) (q0 := 0) (ci := 1) (q := (R_M, F_M, 11)) (C := R_M) (own := R_M) (As := [.int (nI n), .int (zb_e false)]) (rest := []) ⟨hx, hb, hml, hown, ht⟩ hg_all (c_M_room l D ca hs (rt) (co_wd wd ob (co_mk rt wd ob ln qt)) (co_ob ob (co_mk rt wd ob ln qt)) (ln) (co_kd kd (co_ob ob (co_mk rt wd ob ln qt))) (qt) (co_df rt wd ob ln kd qt) (co_mk rt wd ob ln qt) (0) (cn + 1) (iv_c ob - iv_c (co_ob ob (co_mk rt wd ob ln qt))) n hn1 hn2 false hk hov) wm_388 wm_389 wm_21 wm_36 wm_390 ⟨rfl, by decide, by decide, by decide +kernel⟩ rfl ⟨rfl, rfl⟩ ⟨by decide, by decide⟩ ⟨by decide, by decide⟩ hK hP hD rfl rfl rfl hl.1 rfl (Nat.le_of_ble_eq_true rfl) d_M_allocate_48 ?_
        refine nx_top (show lr_e (rm_n (co_ob ob (co_mk rt wd ob ln qt)) (co_kd kd (co_ob ob (co_mk rt wd ob ln qt))) (co_df rt wd ob ln kd qt) n false) = nI (rm_n (co_ob ob (co_mk rt wd ob ln qt)) (co_kd kd (co_ob ob (co_mk rt wd ob ln qt))) (co_df rt wd ob ln kd qt) n false) from if_pos hr1) ?_
        refine lv_istore_n (lv' := [(3, .int (nI (rm_n (co_ob ob (co_mk rt wd ob ln qt)) (co_kd kd (co_ob ob (co_mk rt wd ob ln qt))) (co_df rt wd ob ln kd qt) n false))), (0, .ref (hs 0)), (1, .int (nI n)), (2, .int (zb_e sl))]) hx hb d_M_allocate_51 rfl hl (by decide) rfl (fun ls hl => ?_)
        refine lv_iload_n hx hb d_M_allocate_52 rfl (lv_at hl 0 rfl) ?_
        refine lv_if_ge (tgt := 65) hx hb d_M_allocate_53 (by decide) (fun _ => ?_) (fun h => absurd (nI_pos' (by omega)) h)
        refine lv_iload_n hx hb d_M_allocate_65 rfl (lv_at hl 0 rfl) ?_
        refine lv_istore_n (lv' := [(3, .int (nI (rm_n (co_ob ob (co_mk rt wd ob ln qt)) (co_kd kd (co_ob ob (co_mk rt wd ob ln qt))) (co_df rt wd ob ln kd qt) n false))), (0, .ref (hs 0)), (1, .int (nI n)), (2, .int (zb_e sl))]) hx hb d_M_allocate_66 rfl hl (by decide) rfl (fun ls hl => ?_)
        refine lv_iload_n hx hb d_M_allocate_67 rfl (lv_at hl 0 rfl) ?_
        refine lv_if_ge (tgt := 78) hx hb d_M_allocate_68 (by decide) (fun _ => ?_) (fun h => absurd (nI_pos' (by omega)) h)
        refine lv_aload_n hx hb d_M_allocate_78 rfl (lv_at hl 1 rfl) ?_
        refine lv_iload_n hx hb d_M_allocate_79 rfl (lv_at hl 0 rfl) ?_
        refine lv_iload_n hx hb d_M_allocate_80 rfl (lv_at hl 2 rfl) ?_
        refine lv_iload_n hx hb d_M_allocate_81 rfl (lv_at hl 3 rfl) ?_
        have hok := rm_fact hv2.1 hv2.2.2.1 hn1 hr1
        refine gx_cM (n := 3) (q0 := 0) (ci := 1) (q := (R_M, F_M, 11)) (C := R_M) (own := R_M) (As := [.int (nI (rm_n (co_ob ob (co_mk rt wd ob ln qt)) (co_kd kd (co_ob ob (co_mk rt wd ob ln qt))) (co_df rt wd ob ln kd qt) n false)), .int (nI n), .int (zb_e sl)]) (rest := []) ⟨hx, hb, hml, hown, ht⟩ hg_all (c_M_settle l D ca hs (rt) (co_wd wd ob (co_mk rt wd ob ln qt)) (co_ob ob (co_mk rt wd ob ln qt)) (ln) (co_kd kd (co_ob ob (co_mk rt wd ob ln qt))) (qt) (co_df rt wd ob ln kd qt) (co_mk rt wd ob ln qt) (0) (cn + 1) (iv_c ob - iv_c (co_ob ob (co_mk rt wd ob ln qt))) (rm_n (co_ob ob (co_mk rt wd ob ln qt)) (co_kd kd (co_ob ob (co_mk rt wd ob ln qt))) (co_df rt wd ob ln kd qt) n false) n sl hn1 hn2 hok hv2.2.2.2.2.1) wm_424 wm_425 wm_31 wm_36 wm_426 ⟨rfl, by decide, by decide, by decide +kernel⟩ rfl ⟨rfl, rfl⟩ ⟨by decide, by decide⟩ ⟨by decide, by decide⟩ hK hP hD hS (fun _ h => h) rfl rfl rfl hl.1 rfl (Nat.le_of_ble_eq_true rfl) d_M_allocate_82 (fun v w' H locs hZ hP hD hS _ _ => ?_)
        obtain ⟨rfl, rfl⟩ := hZ
        have hP : va_P D cl_all (gw_M ca hs rt (co_wd wd ob (co_mk rt wd ob ln qt)) (st_ob (co_ob ob (co_mk rt wd ob ln qt)) (rm_n (co_ob ob (co_mk rt wd ob ln qt)) (co_kd kd (co_ob ob (co_mk rt wd ob ln qt))) (co_df rt wd ob ln kd qt) n false) (ss_n n)) (va_up (ln) (rm_n (co_ob ob (co_mk rt wd ob ln qt)) (co_kd kd (co_ob ob (co_mk rt wd ob ln qt))) (co_df rt wd ob ln kd qt) n false) (ss_n n)) (st_kd (co_kd kd (co_ob ob (co_mk rt wd ob ln qt))) (rm_n (co_ob ob (co_mk rt wd ob ln qt)) (co_kd kd (co_ob ob (co_mk rt wd ob ln qt))) (co_df rt wd ob ln kd qt) n false) (ss_n n) n) (va_up (qt) (rm_n (co_ob ob (co_mk rt wd ob ln qt)) (co_kd kd (co_ob ob (co_mk rt wd ob ln qt))) (co_df rt wd ob ln kd qt) n false) sl) (st_df (co_df rt wd ob ln kd qt) (rm_n (co_ob ob (co_mk rt wd ob ln qt)) (co_kd kd (co_ob ob (co_mk rt wd ob ln qt))) (co_df rt wd ob ln kd qt) n false) (ss_n n)) (co_mk rt wd ob ln qt) 0 (cn + 1) (iv_c ob - iv_c (co_ob ob (co_mk rt wd ob ln qt)))) H := hP
        have hD : va_D (gx_A hs 9) (gw_M ca hs rt (co_wd wd ob (co_mk rt wd ob ln qt)) (st_ob (co_ob ob (co_mk rt wd ob ln qt)) (rm_n (co_ob ob (co_mk rt wd ob ln qt)) (co_kd kd (co_ob ob (co_mk rt wd ob ln qt))) (co_df rt wd ob ln kd qt) n false) (ss_n n)) (va_up (ln) (rm_n (co_ob ob (co_mk rt wd ob ln qt)) (co_kd kd (co_ob ob (co_mk rt wd ob ln qt))) (co_df rt wd ob ln kd qt) n false) (ss_n n)) (st_kd (co_kd kd (co_ob ob (co_mk rt wd ob ln qt))) (rm_n (co_ob ob (co_mk rt wd ob ln qt)) (co_kd kd (co_ob ob (co_mk rt wd ob ln qt))) (co_df rt wd ob ln kd qt) n false) (ss_n n) n) (va_up (qt) (rm_n (co_ob ob (co_mk rt wd ob ln qt)) (co_kd kd (co_ob ob (co_mk rt wd ob ln qt))) (co_df rt wd ob ln kd qt) n false) sl) (st_df (co_df rt wd ob ln kd qt) (rm_n (co_ob ob (co_mk rt wd ob ln qt)) (co_kd kd (co_ob ob (co_mk rt wd ob ln qt))) (co_df rt wd ob ln kd qt) n false) (ss_n n)) (co_mk rt wd ob ln qt) 0 (cn + 1) (iv_c ob - iv_c (co_ob ob (co_mk rt wd ob ln qt)))) := hD
        refine lv_sipush (v := nI 4096) hx hb d_M_allocate_85 (by decide +kernel) ?_
        refine lv_iload_n hx hb d_M_allocate_88 rfl (lv_at hl 0 rfl) ?_
        refine nx_iadd hx hb d_M_allocate_89 ?_
        refine hret 90 ls (nI (4096 + (rm_n (co_ob ob (co_mk rt wd ob ln qt)) (co_kd kd (co_ob ob (co_mk rt wd ob ln qt))) (co_df rt wd ob ln kd qt) n false))) _ _ _ d_M_allocate_90 hP hS ?_ ?_
        · exact gw_M_adr.trans gw_M_adr.symm
        · exact ⟨by rfl, by rfl⟩
      · skip
        exact absurd rfl h25
    · skip
      omega

set_option maxHeartbeats 4000000 in
set_option maxRecDepth 100000 in
theorem c_M_allocate_3 (l : Launch) (D : va_G) (ca : Nat → ClassId) (hs : Nat → Nat) (rt : Nat → Int32) (wd : Nat → Int32) (ob : Nat → Nat) (ln : Nat → Nat) (kd : Nat → Nat) (qt : Nat → Bool) (df : Nat → Bool) (mk : Nat → Bool) (th : Nat) (cn : Nat) (gv : Nat) (hv : iv_a ob ln kd wd (iv_c ob)) (n : Nat) (sl : Bool) (hn1 : 1 ≤ n) (hn2 : n ≤ 128) (hr0 : ¬ rm_n ob kd df n false < 512) (hr1 : ¬ rm_n (co_ob ob (co_mk rt wd ob ln qt)) (co_kd kd (co_ob ob (co_mk rt wd ob ln qt))) (co_df rt wd ob ln kd qt) n false < 512) (hr2 : rm_n (co_ob ob (co_mk rt wd ob ln qt)) (co_kd kd (co_ob ob (co_mk rt wd ob ln qt))) (co_df rt wd ob ln kd qt) n true < 512) : Met l y_M_allocate (Cond.code y_M_allocate b_M_allocate 4 (some .int) :: wa_all) (rm_d 5) (va_Pc [.ref (hs 0), .int (nI n), .int (zb_e sl)] (gx_I D cl_all (ty_M ca) (gw_M ca hs rt wd ob ln kd qt df mk th cn gv))) (gx_Q D cl_all (gx_A hs 9) (gw_M ca hs rt wd ob ln kd qt df mk th cn gv) (fun v w' => v = some (.int (nI (4096 + rm_n (co_ob ob (co_mk rt wd ob ln qt)) (co_kd kd (co_ob ob (co_mk rt wd ob ln qt))) (co_df rt wd ob ln kd qt) n true))) ∧ w' = gw_M ca hs rt (co_wd wd ob (co_mk rt wd ob ln qt)) (st_ob (co_ob ob (co_mk rt wd ob ln qt)) (rm_n (co_ob ob (co_mk rt wd ob ln qt)) (co_kd kd (co_ob ob (co_mk rt wd ob ln qt))) (co_df rt wd ob ln kd qt) n true) (ss_n n)) (va_up ln (rm_n (co_ob ob (co_mk rt wd ob ln qt)) (co_kd kd (co_ob ob (co_mk rt wd ob ln qt))) (co_df rt wd ob ln kd qt) n true) (ss_n n)) (st_kd (co_kd kd (co_ob ob (co_mk rt wd ob ln qt))) (rm_n (co_ob ob (co_mk rt wd ob ln qt)) (co_kd kd (co_ob ob (co_mk rt wd ob ln qt))) (co_df rt wd ob ln kd qt) n true) (ss_n n) n) (va_up qt (rm_n (co_ob ob (co_mk rt wd ob ln qt)) (co_kd kd (co_ob ob (co_mk rt wd ob ln qt))) (co_df rt wd ob ln kd qt) n true) sl) (st_df (co_df rt wd ob ln kd qt) (rm_n (co_ob ob (co_mk rt wd ob ln qt)) (co_kd kd (co_ob ob (co_mk rt wd ob ln qt))) (co_df rt wd ob ln kd qt) n true) (ss_n n)) (co_mk rt wd ob ln qt) 0 (cn + 1) (iv_c ob - iv_c (co_ob ob (co_mk rt wd ob ln qt))))) 0 0 (gx_A hs 9) := by
  refine gx_mutI (by decide) (Nat.le_of_ble_eq_true rfl) gw_M_in ?_
  intro p e s m args below meth c ls Q hx hb hml ht hown hret hP hK hD hS hl
  have hl : lv_has ls 4 [(0, .ref (hs 0)), (1, .int (nI n)), (2, .int (zb_e sl))] := hl
  have hown : s.vm.findClass R_M = some m.cls := hown
  have hk : ∀ b, b < 16 → kd b < 34 := fun b hb => iv_kl hv.2.1 hb
  have hov := hv.1
  have ho : ∀ i, i < 512 → ob i < 513 := fun i hi => iv_lt hv.1 hi
  have hP : va_P D cl_all (gw_M ca hs rt wd ob ln kd qt df mk th cn gv) s.heap := hP
  refine lv_aload_n hx hb d_M_allocate_0 rfl (lv_at hl 0 rfl) ?_
  refine lv_iload_n hx hb d_M_allocate_1 rfl (lv_at hl 1 rfl) ?_
  refine lv_iconst (v := nI 1) hx hb d_M_allocate_2 (by decide +kernel) ?_
  refine nx_icmp_lt (tgt := 13) hx hb d_M_allocate_3 (by decide) (by omega) (by omega) (fun h3 => ?_) (fun h3 => ?_)
  · skip
    omega
  · skip
    refine lv_iload_n hx hb d_M_allocate_6 rfl (lv_at hl 1 rfl) ?_
    refine lv_sipush (v := nI 128) hx hb d_M_allocate_7 (by decide +kernel) ?_
    refine nx_icmp_le (tgt := 17) hx hb d_M_allocate_10 (by decide) (by omega) (by omega) (fun h10 => ?_) (fun h10 => ?_)
    · skip
      refine lv_iconst (v := nI 0) hx hb d_M_allocate_17 (by decide +kernel) ?_
      refine va_put (D := D) (ci := 1) (v := .int (nI 0)) (ty := .int) (C := R_M) (T := F_M) (N := 11) hx hb ht in_M t_M t_M_ok n_M_ne hown hK hP hD hS 0 rfl rfl 0 (by decide) (ht _ wm_346) (fun _ h9 => h9) rfl (by decide +kernel) rfl rfl (Nat.le_of_ble_eq_true rfl) d_M_allocate_18 (fun H locs hP hD hS => ?_)
      have hP : va_P D cl_all (gw_M ca hs rt wd ob ln kd qt df mk 0 cn gv) H := hP
      have hD : va_D (gx_A hs 9) (gw_M ca hs rt wd ob ln kd qt df mk 0 cn gv) := hD
      refine lv_aload_n hx hb d_M_allocate_21 rfl (lv_at hl 0 rfl) ?_
      refine va_get (D := D) (ci := 1) (v := .int (nI 0)) (C := R_M) (T := F_M) (N := 11) hx hb ht in_M hown hK hP 0 rfl rfl 0 (by decide) (ht _ wm_346) (fun _ h9 => h9) rfl d_M_allocate_22 ?_
      refine nx_if_le (tgt := 30) hx hb d_M_allocate_25 (by decide) (by omega) (fun h25 => ?_) (fun h25 => ?_)
      · skip
        refine lv_aload_n hx hb d_M_allocate_30 rfl (lv_at hl 0 rfl) ?_
        refine lv_iload_n hx hb d_M_allocate_31 rfl (lv_at hl 1 rfl) ?_
        refine lv_iconst (v := zb_e false) hx hb d_M_allocate_32 (by decide +kernel) ?_
        refine gx_cV (n := 2) (q0 := 0) (ci := 1) (q := (R_M, F_M, 11)) (C := R_M) (own := R_M) (As := [.int (nI n), .int (zb_e false)]) (rest := []) ⟨hx, hb, hml, hown, ht⟩ hg_all (c_M_room l D ca hs (rt) (wd) (ob) (ln) (kd) (qt) (df) (mk) (0) (cn) (gv) n hn1 hn2 false hk hov) wm_388 wm_389 wm_21 wm_36 wm_390 ⟨rfl, by decide, by decide, by decide +kernel⟩ rfl ⟨rfl, rfl⟩ ⟨by decide, by decide⟩ ⟨by decide, by decide⟩ hK hP hD rfl rfl rfl hl.1 rfl (Nat.le_of_ble_eq_true rfl) d_M_allocate_33 ?_
        refine nx_top (show lr_e (rm_n (ob) (kd) (df) n false) = -1 from if_neg hr0) ?_
        refine lv_istore_n (lv' := [(3, .int (-1)), (0, .ref (hs 0)), (1, .int (nI n)), (2, .int (zb_e sl))]) hx hb d_M_allocate_36 rfl hl (by decide) rfl (fun ls hl => ?_)
        refine lv_iload_n hx hb d_M_allocate_37 rfl (lv_at hl 0 rfl) ?_
        refine lv_if_ge (tgt := 67) hx hb d_M_allocate_38 (by decide) (fun h => absurd h (by decide)) (fun _ => ?_)
        refine lv_aload_n hx hb d_M_allocate_41 rfl (lv_at hl 1 rfl) ?_
        refine gx_cM (n := 0) (q0 := 0) (ci := 1) (q := (R_M, F_M, 11)) (C := R_M) (own := R_M) (As := []) (rest := []) ⟨hx, hb, hml, hown, ht⟩ hg_all (c_M_gather l D ca hs (rt) (wd) (ob) (ln) (kd) (qt) (df) (mk) (0) (cn) (gv) hv) wm_403 wm_404 wm_25 wm_36 wm_405 ⟨rfl, by decide, by decide, by decide +kernel⟩ rfl ⟨rfl, rfl⟩ ⟨by decide, by decide⟩ ⟨by decide, by decide⟩ hK hP hD hS (fun _ h => h) rfl rfl rfl hl.1 rfl (Nat.le_of_ble_eq_true rfl) d_M_allocate_42 (fun v w' H locs hZ hP hD hS _ _ => ?_)
        obtain ⟨rfl, rfl⟩ := hZ
        have hP : va_P D cl_all (gw_M ca hs rt (co_wd wd ob (co_mk rt wd ob ln qt)) (co_ob ob (co_mk rt wd ob ln qt)) ln (co_kd kd (co_ob ob (co_mk rt wd ob ln qt))) qt (co_df rt wd ob ln kd qt) (co_mk rt wd ob ln qt) 0 (cn + 1) (iv_c ob - iv_c (co_ob ob (co_mk rt wd ob ln qt)))) H := hP
        have hD : va_D (gx_A hs 9) (gw_M ca hs rt (co_wd wd ob (co_mk rt wd ob ln qt)) (co_ob ob (co_mk rt wd ob ln qt)) ln (co_kd kd (co_ob ob (co_mk rt wd ob ln qt))) qt (co_df rt wd ob ln kd qt) (co_mk rt wd ob ln qt) 0 (cn + 1) (iv_c ob - iv_c (co_ob ob (co_mk rt wd ob ln qt)))) := hD
        have hv2 := co_iv (co_mk rt wd ob ln qt) hv
        have hk : ∀ b, b < 16 → (co_kd kd (co_ob ob (co_mk rt wd ob ln qt))) b < 34 := fun b hb => iv_kl hv2.2.1 hb
        have hov := hv2.1
        refine lv_aload_n hx hb d_M_allocate_45 rfl (lv_at hl 1 rfl) ?_
        refine lv_iload_n hx hb d_M_allocate_46 rfl (lv_at hl 2 rfl) ?_
        refine lv_iconst (v := zb_e false) hx hb d_M_allocate_47 (by decide +kernel) ?_
        refine gx_cV (n := 2) (q0 := 0) (ci := 1) (q := (R_M, F_M, 11)) (C := R_M) (own := R_M) (As := [.int (nI n), .int (zb_e false)]) (rest := []) ⟨hx, hb, hml, hown, ht⟩ hg_all (c_M_room l D ca hs (rt) (co_wd wd ob (co_mk rt wd ob ln qt)) (co_ob ob (co_mk rt wd ob ln qt)) (ln) (co_kd kd (co_ob ob (co_mk rt wd ob ln qt))) (qt) (co_df rt wd ob ln kd qt) (co_mk rt wd ob ln qt) (0) (cn + 1) (iv_c ob - iv_c (co_ob ob (co_mk rt wd ob ln qt))) n hn1 hn2 false hk hov) wm_388 wm_389 wm_21 wm_36 wm_390 ⟨rfl, by decide, by decide, by decide +kernel⟩ rfl ⟨rfl, rfl⟩ ⟨by decide, by decide⟩ ⟨by decide, by decide⟩ hK hP hD rfl rfl rfl hl.1 rfl (Nat.le_of_ble_eq_true rfl) d_M_allocate_48 ?_
        refine nx_top (show lr_e (rm_n (co_ob ob (co_mk rt wd ob ln qt)) (co_kd kd (co_ob ob (co_mk rt wd ob ln qt))) (co_df rt wd ob ln kd qt) n false) = -1 from if_neg hr1) ?_
        refine lv_istore_n (lv' := [(3, .int (-1)), (0, .ref (hs 0)), (1, .int (nI n)), (2, .int (zb_e sl))]) hx hb d_M_allocate_51 rfl hl (by decide) rfl (fun ls hl => ?_)
        refine lv_iload_n hx hb d_M_allocate_52 rfl (lv_at hl 0 rfl) ?_
        refine lv_if_ge (tgt := 65) hx hb d_M_allocate_53 (by decide) (fun h => absurd h (by decide)) (fun _ => ?_)
        refine lv_aload_n hx hb d_M_allocate_56 rfl (lv_at hl 1 rfl) ?_
        refine lv_iload_n hx hb d_M_allocate_57 rfl (lv_at hl 2 rfl) ?_
        refine lv_iconst (v := zb_e true) hx hb d_M_allocate_58 (by decide +kernel) ?_
        refine gx_cV (n := 2) (q0 := 0) (ci := 1) (q := (R_M, F_M, 11)) (C := R_M) (own := R_M) (As := [.int (nI n), .int (zb_e true)]) (rest := []) ⟨hx, hb, hml, hown, ht⟩ hg_all (c_M_room l D ca hs (rt) (co_wd wd ob (co_mk rt wd ob ln qt)) (co_ob ob (co_mk rt wd ob ln qt)) (ln) (co_kd kd (co_ob ob (co_mk rt wd ob ln qt))) (qt) (co_df rt wd ob ln kd qt) (co_mk rt wd ob ln qt) (0) (cn + 1) (iv_c ob - iv_c (co_ob ob (co_mk rt wd ob ln qt))) n hn1 hn2 true hk hov) wm_388 wm_389 wm_21 wm_36 wm_390 ⟨rfl, by decide, by decide, by decide +kernel⟩ rfl ⟨rfl, rfl⟩ ⟨by decide, by decide⟩ ⟨by decide, by decide⟩ hK hP hD rfl rfl rfl hl.1 rfl (Nat.le_of_ble_eq_true rfl) d_M_allocate_59 ?_
        refine nx_top (show lr_e (rm_n (co_ob ob (co_mk rt wd ob ln qt)) (co_kd kd (co_ob ob (co_mk rt wd ob ln qt))) (co_df rt wd ob ln kd qt) n true) = nI (rm_n (co_ob ob (co_mk rt wd ob ln qt)) (co_kd kd (co_ob ob (co_mk rt wd ob ln qt))) (co_df rt wd ob ln kd qt) n true) from if_pos hr2) ?_
        refine lv_goto (tgt := 66) hx hb d_M_allocate_62 (by decide) ?_
        refine lv_istore_n (lv' := [(3, .int (nI (rm_n (co_ob ob (co_mk rt wd ob ln qt)) (co_kd kd (co_ob ob (co_mk rt wd ob ln qt))) (co_df rt wd ob ln kd qt) n true))), (0, .ref (hs 0)), (1, .int (nI n)), (2, .int (zb_e sl))]) hx hb d_M_allocate_66 rfl hl (by decide) rfl (fun ls hl => ?_)
        refine lv_iload_n hx hb d_M_allocate_67 rfl (lv_at hl 0 rfl) ?_
        refine lv_if_ge (tgt := 78) hx hb d_M_allocate_68 (by decide) (fun _ => ?_) (fun h => absurd (nI_pos' (by omega)) h)
        refine lv_aload_n hx hb d_M_allocate_78 rfl (lv_at hl 1 rfl) ?_
        refine lv_iload_n hx hb d_M_allocate_79 rfl (lv_at hl 0 rfl) ?_
        refine lv_iload_n hx hb d_M_allocate_80 rfl (lv_at hl 2 rfl) ?_
        refine lv_iload_n hx hb d_M_allocate_81 rfl (lv_at hl 3 rfl) ?_
        have hok := rm_fact hv2.1 hv2.2.2.1 hn1 hr2
        refine gx_cM (n := 3) (q0 := 0) (ci := 1) (q := (R_M, F_M, 11)) (C := R_M) (own := R_M) (As := [.int (nI (rm_n (co_ob ob (co_mk rt wd ob ln qt)) (co_kd kd (co_ob ob (co_mk rt wd ob ln qt))) (co_df rt wd ob ln kd qt) n true)), .int (nI n), .int (zb_e sl)]) (rest := []) ⟨hx, hb, hml, hown, ht⟩ hg_all (c_M_settle l D ca hs (rt) (co_wd wd ob (co_mk rt wd ob ln qt)) (co_ob ob (co_mk rt wd ob ln qt)) (ln) (co_kd kd (co_ob ob (co_mk rt wd ob ln qt))) (qt) (co_df rt wd ob ln kd qt) (co_mk rt wd ob ln qt) (0) (cn + 1) (iv_c ob - iv_c (co_ob ob (co_mk rt wd ob ln qt))) (rm_n (co_ob ob (co_mk rt wd ob ln qt)) (co_kd kd (co_ob ob (co_mk rt wd ob ln qt))) (co_df rt wd ob ln kd qt) n true) n sl hn1 hn2 hok hv2.2.2.2.2.1) wm_424 wm_425 wm_31 wm_36 wm_426 ⟨rfl, by decide, by decide, by decide +kernel⟩ rfl ⟨rfl, rfl⟩ ⟨by decide, by decide⟩ ⟨by decide, by decide⟩ hK hP hD hS (fun _ h => h) rfl rfl rfl hl.1 rfl (Nat.le_of_ble_eq_true rfl) d_M_allocate_82 (fun v w' H locs hZ hP hD hS _ _ => ?_)
        obtain ⟨rfl, rfl⟩ := hZ
        have hP : va_P D cl_all (gw_M ca hs rt (co_wd wd ob (co_mk rt wd ob ln qt)) (st_ob (co_ob ob (co_mk rt wd ob ln qt)) (rm_n (co_ob ob (co_mk rt wd ob ln qt)) (co_kd kd (co_ob ob (co_mk rt wd ob ln qt))) (co_df rt wd ob ln kd qt) n true) (ss_n n)) (va_up (ln) (rm_n (co_ob ob (co_mk rt wd ob ln qt)) (co_kd kd (co_ob ob (co_mk rt wd ob ln qt))) (co_df rt wd ob ln kd qt) n true) (ss_n n)) (st_kd (co_kd kd (co_ob ob (co_mk rt wd ob ln qt))) (rm_n (co_ob ob (co_mk rt wd ob ln qt)) (co_kd kd (co_ob ob (co_mk rt wd ob ln qt))) (co_df rt wd ob ln kd qt) n true) (ss_n n) n) (va_up (qt) (rm_n (co_ob ob (co_mk rt wd ob ln qt)) (co_kd kd (co_ob ob (co_mk rt wd ob ln qt))) (co_df rt wd ob ln kd qt) n true) sl) (st_df (co_df rt wd ob ln kd qt) (rm_n (co_ob ob (co_mk rt wd ob ln qt)) (co_kd kd (co_ob ob (co_mk rt wd ob ln qt))) (co_df rt wd ob ln kd qt) n true) (ss_n n)) (co_mk rt wd ob ln qt) 0 (cn + 1) (iv_c ob - iv_c (co_ob ob (co_mk rt wd ob ln qt)))) H := hP
        have hD : va_D (gx_A hs 9) (gw_M ca hs rt (co_wd wd ob (co_mk rt wd ob ln qt)) (st_ob (co_ob ob (co_mk rt wd ob ln qt)) (rm_n (co_ob ob (co_mk rt wd ob ln qt)) (co_kd kd (co_ob ob (co_mk rt wd ob ln qt))) (co_df rt wd ob ln kd qt) n true) (ss_n n)) (va_up (ln) (rm_n (co_ob ob (co_mk rt wd ob ln qt)) (co_kd kd (co_ob ob (co_mk rt wd ob ln qt))) (co_df rt wd ob ln kd qt) n true) (ss_n n)) (st_kd (co_kd kd (co_ob ob (co_mk rt wd ob ln qt))) (rm_n (co_ob ob (co_mk rt wd ob ln qt)) (co_kd kd (co_ob ob (co_mk rt wd ob ln qt))) (co_df rt wd ob ln kd qt) n true) (ss_n n) n) (va_up (qt) (rm_n (co_ob ob (co_mk rt wd ob ln qt)) (co_kd kd (co_ob ob (co_mk rt wd ob ln qt))) (co_df rt wd ob ln kd qt) n true) sl) (st_df (co_df rt wd ob ln kd qt) (rm_n (co_ob ob (co_mk rt wd ob ln qt)) (co_kd kd (co_ob ob (co_mk rt wd ob ln qt))) (co_df rt wd ob ln kd qt) n true) (ss_n n)) (co_mk rt wd ob ln qt) 0 (cn + 1) (iv_c ob - iv_c (co_ob ob (co_mk rt wd ob ln qt)))) := hD
        refine lv_sipush (v := nI 4096) hx hb d_M_allocate_85 (by decide +kernel) ?_
        refine lv_iload_n hx hb d_M_allocate_88 rfl (lv_at hl 0 rfl) ?_
        refine nx_iadd hx hb d_M_allocate_89 ?_
        refine hret 90 ls (nI (4096 + (rm_n (co_ob ob (co_mk rt wd ob ln qt)) (co_kd kd (co_ob ob (co_mk rt wd ob ln qt))) (co_df rt wd ob ln kd qt) n true))) _ _ _ d_M_allocate_90 hP hS ?_ ?_
        · exact gw_M_adr.trans gw_M_adr.symm
        · exact ⟨by rfl, by rfl⟩
      · skip
        exact absurd rfl h25
    · skip
      omega

set_option maxHeartbeats 4000000 in
set_option maxRecDepth 100000 in
theorem c_M_allocate_4 (l : Launch) (D : va_G) (ca : Nat → ClassId) (hs : Nat → Nat) (rt : Nat → Int32) (wd : Nat → Int32) (ob : Nat → Nat) (ln : Nat → Nat) (kd : Nat → Nat) (qt : Nat → Bool) (df : Nat → Bool) (mk : Nat → Bool) (th : Nat) (cn : Nat) (gv : Nat) (hv : iv_a ob ln kd wd (iv_c ob)) (n : Nat) (sl : Bool) (hn1 : 1 ≤ n) (hn2 : n ≤ 128) (hr0 : ¬ rm_n ob kd df n false < 512) (hr1 : ¬ rm_n (co_ob ob (co_mk rt wd ob ln qt)) (co_kd kd (co_ob ob (co_mk rt wd ob ln qt))) (co_df rt wd ob ln kd qt) n false < 512) (hr2 : ¬ rm_n (co_ob ob (co_mk rt wd ob ln qt)) (co_kd kd (co_ob ob (co_mk rt wd ob ln qt))) (co_df rt wd ob ln kd qt) n true < 512) : Met l y_M_allocate (Cond.code y_M_allocate b_M_allocate 4 (some .int) :: wa_all) (rm_d 5) (va_Pc [.ref (hs 0), .int (nI n), .int (zb_e sl)] (gx_I D cl_all (ty_M ca) (gw_M ca hs rt wd ob ln kd qt df mk th cn gv))) (gx_Q D cl_all (gx_A hs 9) (gw_M ca hs rt wd ob ln kd qt df mk th cn gv) (fun v w' => v = some (.int (nI 0)) ∧ w' = gw_M ca hs rt (co_wd wd ob (co_mk rt wd ob ln qt)) (co_ob ob (co_mk rt wd ob ln qt)) ln (co_kd kd (co_ob ob (co_mk rt wd ob ln qt))) qt (co_df rt wd ob ln kd qt) (co_mk rt wd ob ln qt) 2 (cn + 1) (iv_c ob - iv_c (co_ob ob (co_mk rt wd ob ln qt))))) 0 0 (gx_A hs 9) := by
  refine gx_mutI (by decide) (Nat.le_of_ble_eq_true rfl) gw_M_in ?_
  intro p e s m args below meth c ls Q hx hb hml ht hown hret hP hK hD hS hl
  have hl : lv_has ls 4 [(0, .ref (hs 0)), (1, .int (nI n)), (2, .int (zb_e sl))] := hl
  have hown : s.vm.findClass R_M = some m.cls := hown
  have hk : ∀ b, b < 16 → kd b < 34 := fun b hb => iv_kl hv.2.1 hb
  have hov := hv.1
  have ho : ∀ i, i < 512 → ob i < 513 := fun i hi => iv_lt hv.1 hi
  have hP : va_P D cl_all (gw_M ca hs rt wd ob ln kd qt df mk th cn gv) s.heap := hP
  refine lv_aload_n hx hb d_M_allocate_0 rfl (lv_at hl 0 rfl) ?_
  refine lv_iload_n hx hb d_M_allocate_1 rfl (lv_at hl 1 rfl) ?_
  refine lv_iconst (v := nI 1) hx hb d_M_allocate_2 (by decide +kernel) ?_
  refine nx_icmp_lt (tgt := 13) hx hb d_M_allocate_3 (by decide) (by omega) (by omega) (fun h3 => ?_) (fun h3 => ?_)
  · skip
    omega
  · skip
    refine lv_iload_n hx hb d_M_allocate_6 rfl (lv_at hl 1 rfl) ?_
    refine lv_sipush (v := nI 128) hx hb d_M_allocate_7 (by decide +kernel) ?_
    refine nx_icmp_le (tgt := 17) hx hb d_M_allocate_10 (by decide) (by omega) (by omega) (fun h10 => ?_) (fun h10 => ?_)
    · skip
      refine lv_iconst (v := nI 0) hx hb d_M_allocate_17 (by decide +kernel) ?_
      refine va_put (D := D) (ci := 1) (v := .int (nI 0)) (ty := .int) (C := R_M) (T := F_M) (N := 11) hx hb ht in_M t_M t_M_ok n_M_ne hown hK hP hD hS 0 rfl rfl 0 (by decide) (ht _ wm_346) (fun _ h9 => h9) rfl (by decide +kernel) rfl rfl (Nat.le_of_ble_eq_true rfl) d_M_allocate_18 (fun H locs hP hD hS => ?_)
      have hP : va_P D cl_all (gw_M ca hs rt wd ob ln kd qt df mk 0 cn gv) H := hP
      have hD : va_D (gx_A hs 9) (gw_M ca hs rt wd ob ln kd qt df mk 0 cn gv) := hD
      refine lv_aload_n hx hb d_M_allocate_21 rfl (lv_at hl 0 rfl) ?_
      refine va_get (D := D) (ci := 1) (v := .int (nI 0)) (C := R_M) (T := F_M) (N := 11) hx hb ht in_M hown hK hP 0 rfl rfl 0 (by decide) (ht _ wm_346) (fun _ h9 => h9) rfl d_M_allocate_22 ?_
      refine nx_if_le (tgt := 30) hx hb d_M_allocate_25 (by decide) (by omega) (fun h25 => ?_) (fun h25 => ?_)
      · skip
        refine lv_aload_n hx hb d_M_allocate_30 rfl (lv_at hl 0 rfl) ?_
        refine lv_iload_n hx hb d_M_allocate_31 rfl (lv_at hl 1 rfl) ?_
        refine lv_iconst (v := zb_e false) hx hb d_M_allocate_32 (by decide +kernel) ?_
        refine gx_cV (n := 2) (q0 := 0) (ci := 1) (q := (R_M, F_M, 11)) (C := R_M) (own := R_M) (As := [.int (nI n), .int (zb_e false)]) (rest := []) ⟨hx, hb, hml, hown, ht⟩ hg_all (c_M_room l D ca hs (rt) (wd) (ob) (ln) (kd) (qt) (df) (mk) (0) (cn) (gv) n hn1 hn2 false hk hov) wm_388 wm_389 wm_21 wm_36 wm_390 ⟨rfl, by decide, by decide, by decide +kernel⟩ rfl ⟨rfl, rfl⟩ ⟨by decide, by decide⟩ ⟨by decide, by decide⟩ hK hP hD rfl rfl rfl hl.1 rfl (Nat.le_of_ble_eq_true rfl) d_M_allocate_33 ?_
        refine nx_top (show lr_e (rm_n (ob) (kd) (df) n false) = -1 from if_neg hr0) ?_
        refine lv_istore_n (lv' := [(3, .int (-1)), (0, .ref (hs 0)), (1, .int (nI n)), (2, .int (zb_e sl))]) hx hb d_M_allocate_36 rfl hl (by decide) rfl (fun ls hl => ?_)
        refine lv_iload_n hx hb d_M_allocate_37 rfl (lv_at hl 0 rfl) ?_
        refine lv_if_ge (tgt := 67) hx hb d_M_allocate_38 (by decide) (fun h => absurd h (by decide)) (fun _ => ?_)
        refine lv_aload_n hx hb d_M_allocate_41 rfl (lv_at hl 1 rfl) ?_
        refine gx_cM (n := 0) (q0 := 0) (ci := 1) (q := (R_M, F_M, 11)) (C := R_M) (own := R_M) (As := []) (rest := []) ⟨hx, hb, hml, hown, ht⟩ hg_all (c_M_gather l D ca hs (rt) (wd) (ob) (ln) (kd) (qt) (df) (mk) (0) (cn) (gv) hv) wm_403 wm_404 wm_25 wm_36 wm_405 ⟨rfl, by decide, by decide, by decide +kernel⟩ rfl ⟨rfl, rfl⟩ ⟨by decide, by decide⟩ ⟨by decide, by decide⟩ hK hP hD hS (fun _ h => h) rfl rfl rfl hl.1 rfl (Nat.le_of_ble_eq_true rfl) d_M_allocate_42 (fun v w' H locs hZ hP hD hS _ _ => ?_)
        obtain ⟨rfl, rfl⟩ := hZ
        have hP : va_P D cl_all (gw_M ca hs rt (co_wd wd ob (co_mk rt wd ob ln qt)) (co_ob ob (co_mk rt wd ob ln qt)) ln (co_kd kd (co_ob ob (co_mk rt wd ob ln qt))) qt (co_df rt wd ob ln kd qt) (co_mk rt wd ob ln qt) 0 (cn + 1) (iv_c ob - iv_c (co_ob ob (co_mk rt wd ob ln qt)))) H := hP
        have hD : va_D (gx_A hs 9) (gw_M ca hs rt (co_wd wd ob (co_mk rt wd ob ln qt)) (co_ob ob (co_mk rt wd ob ln qt)) ln (co_kd kd (co_ob ob (co_mk rt wd ob ln qt))) qt (co_df rt wd ob ln kd qt) (co_mk rt wd ob ln qt) 0 (cn + 1) (iv_c ob - iv_c (co_ob ob (co_mk rt wd ob ln qt)))) := hD
        have hv2 := co_iv (co_mk rt wd ob ln qt) hv
        have hk : ∀ b, b < 16 → (co_kd kd (co_ob ob (co_mk rt wd ob ln qt))) b < 34 := fun b hb => iv_kl hv2.2.1 hb
        have hov := hv2.1
        refine lv_aload_n hx hb d_M_allocate_45 rfl (lv_at hl 1 rfl) ?_
        refine lv_iload_n hx hb d_M_allocate_46 rfl (lv_at hl 2 rfl) ?_
        refine lv_iconst (v := zb_e false) hx hb d_M_allocate_47 (by decide +kernel) ?_
        refine gx_cV (n := 2) (q0 := 0) (ci := 1) (q := (R_M, F_M, 11)) (C := R_M) (own := R_M) (As := [.int (nI n), .int (zb_e false)]) (rest := []) ⟨hx, hb, hml, hown, ht⟩ hg_all (c_M_room l D ca hs (rt) (co_wd wd ob (co_mk rt wd ob ln qt)) (co_ob ob (co_mk rt wd ob ln qt)) (ln) (co_kd kd (co_ob ob (co_mk rt wd ob ln qt))) (qt) (co_df rt wd ob ln kd qt) (co_mk rt wd ob ln qt) (0) (cn + 1) (iv_c ob - iv_c (co_ob ob (co_mk rt wd ob ln qt))) n hn1 hn2 false hk hov) wm_388 wm_389 wm_21 wm_36 wm_390 ⟨rfl, by decide, by decide, by decide +kernel⟩ rfl ⟨rfl, rfl⟩ ⟨by decide, by decide⟩ ⟨by decide, by decide⟩ hK hP hD rfl rfl rfl hl.1 rfl (Nat.le_of_ble_eq_true rfl) d_M_allocate_48 ?_
        refine nx_top (show lr_e (rm_n (co_ob ob (co_mk rt wd ob ln qt)) (co_kd kd (co_ob ob (co_mk rt wd ob ln qt))) (co_df rt wd ob ln kd qt) n false) = -1 from if_neg hr1) ?_
        refine lv_istore_n (lv' := [(3, .int (-1)), (0, .ref (hs 0)), (1, .int (nI n)), (2, .int (zb_e sl))]) hx hb d_M_allocate_51 rfl hl (by decide) rfl (fun ls hl => ?_)
        refine lv_iload_n hx hb d_M_allocate_52 rfl (lv_at hl 0 rfl) ?_
        refine lv_if_ge (tgt := 65) hx hb d_M_allocate_53 (by decide) (fun h => absurd h (by decide)) (fun _ => ?_)
        refine lv_aload_n hx hb d_M_allocate_56 rfl (lv_at hl 1 rfl) ?_
        refine lv_iload_n hx hb d_M_allocate_57 rfl (lv_at hl 2 rfl) ?_
        refine lv_iconst (v := zb_e true) hx hb d_M_allocate_58 (by decide +kernel) ?_
        refine gx_cV (n := 2) (q0 := 0) (ci := 1) (q := (R_M, F_M, 11)) (C := R_M) (own := R_M) (As := [.int (nI n), .int (zb_e true)]) (rest := []) ⟨hx, hb, hml, hown, ht⟩ hg_all (c_M_room l D ca hs (rt) (co_wd wd ob (co_mk rt wd ob ln qt)) (co_ob ob (co_mk rt wd ob ln qt)) (ln) (co_kd kd (co_ob ob (co_mk rt wd ob ln qt))) (qt) (co_df rt wd ob ln kd qt) (co_mk rt wd ob ln qt) (0) (cn + 1) (iv_c ob - iv_c (co_ob ob (co_mk rt wd ob ln qt))) n hn1 hn2 true hk hov) wm_388 wm_389 wm_21 wm_36 wm_390 ⟨rfl, by decide, by decide, by decide +kernel⟩ rfl ⟨rfl, rfl⟩ ⟨by decide, by decide⟩ ⟨by decide, by decide⟩ hK hP hD rfl rfl rfl hl.1 rfl (Nat.le_of_ble_eq_true rfl) d_M_allocate_59 ?_
        refine nx_top (show lr_e (rm_n (co_ob ob (co_mk rt wd ob ln qt)) (co_kd kd (co_ob ob (co_mk rt wd ob ln qt))) (co_df rt wd ob ln kd qt) n true) = -1 from if_neg hr2) ?_
        refine lv_goto (tgt := 66) hx hb d_M_allocate_62 (by decide) ?_
        refine lv_istore_n (lv' := [(3, .int (-1)), (0, .ref (hs 0)), (1, .int (nI n)), (2, .int (zb_e sl))]) hx hb d_M_allocate_66 rfl hl (by decide) rfl (fun ls hl => ?_)
        refine lv_iload_n hx hb d_M_allocate_67 rfl (lv_at hl 0 rfl) ?_
        refine lv_if_ge (tgt := 78) hx hb d_M_allocate_68 (by decide) (fun h => absurd h (by decide)) (fun _ => ?_)
        refine lv_aload_n hx hb d_M_allocate_71 rfl (lv_at hl 1 rfl) ?_
        refine lv_iconst (v := nI 2) hx hb d_M_allocate_72 (by decide +kernel) ?_
        refine va_put (D := D) (ci := 1) (v := .int (nI 2)) (ty := .int) (C := R_M) (T := F_M) (N := 11) hx hb ht in_M t_M t_M_ok n_M_ne hown hK hP hD hS 0 rfl rfl 0 (by decide) (ht _ wm_346) (fun _ h9 => h9) rfl (by decide +kernel) rfl rfl (Nat.le_of_ble_eq_true rfl) d_M_allocate_73 (fun H locs hP hD hS => ?_)
        have hP : va_P D cl_all (gw_M ca hs rt (co_wd wd ob (co_mk rt wd ob ln qt)) (co_ob ob (co_mk rt wd ob ln qt)) ln (co_kd kd (co_ob ob (co_mk rt wd ob ln qt))) qt (co_df rt wd ob ln kd qt) (co_mk rt wd ob ln qt) 2 (cn + 1) (iv_c ob - iv_c (co_ob ob (co_mk rt wd ob ln qt)))) H := hP
        have hD : va_D (gx_A hs 9) (gw_M ca hs rt (co_wd wd ob (co_mk rt wd ob ln qt)) (co_ob ob (co_mk rt wd ob ln qt)) ln (co_kd kd (co_ob ob (co_mk rt wd ob ln qt))) qt (co_df rt wd ob ln kd qt) (co_mk rt wd ob ln qt) 2 (cn + 1) (iv_c ob - iv_c (co_ob ob (co_mk rt wd ob ln qt)))) := hD
        refine lv_iconst (v := nI 0) hx hb d_M_allocate_76 (by decide +kernel) ?_
        refine hret 77 ls (nI 0) _ _ _ d_M_allocate_77 hP hS ?_ ?_
        · exact gw_M_adr.trans gw_M_adr.symm
        · exact ⟨by rfl, by rfl⟩
      · skip
        exact absurd rfl h25
    · skip
      omega

set_option maxHeartbeats 4000000 in
set_option maxRecDepth 100000 in
theorem c_M_collect (l : Launch) (D : va_G) (ca : Nat → ClassId) (hs : Nat → Nat) (rt : Nat → Int32) (wd : Nat → Int32) (ob : Nat → Nat) (ln : Nat → Nat) (kd : Nat → Nat) (qt : Nat → Bool) (df : Nat → Bool) (mk : Nat → Bool) (th : Nat) (cn : Nat) (gv : Nat) (hv : iv_a ob ln kd wd (iv_c ob)) : Met l y_M_collect (Cond.code y_M_collect b_M_collect 1 (some .int) :: wa_all) (rm_d 5) (va_Pc [.ref (hs 0)] (gx_I D cl_all (ty_M ca) (gw_M ca hs rt wd ob ln kd qt df mk th cn gv))) (gx_Q D cl_all (gx_A hs 9) (gw_M ca hs rt wd ob ln kd qt df mk th cn gv) (fun v w' => v = some (.int (nI (iv_c ob - iv_c (co_ob ob (co_mk rt wd ob ln qt))))) ∧ w' = gw_M ca hs rt (co_wd wd ob (co_mk rt wd ob ln qt)) (co_ob ob (co_mk rt wd ob ln qt)) ln (co_kd kd (co_ob ob (co_mk rt wd ob ln qt))) qt (co_df rt wd ob ln kd qt) (co_mk rt wd ob ln qt) 0 (cn + 1) (iv_c ob - iv_c (co_ob ob (co_mk rt wd ob ln qt))))) 0 0 (gx_A hs 9) := by
  refine gx_mutI (by decide) (Nat.le_of_ble_eq_true rfl) gw_M_in ?_
  intro p e s m args below meth c ls Q hx hb hml ht hown hret hP hK hD hS hl
  have hl : lv_has ls 1 [(0, .ref (hs 0))] := hl
  have hown : s.vm.findClass R_M = some m.cls := hown
  have hk : ∀ b, b < 16 → kd b < 34 := fun b hb => iv_kl hv.2.1 hb
  have hov := hv.1
  have ho : ∀ i, i < 512 → ob i < 513 := fun i hi => iv_lt hv.1 hi
  have hP : va_P D cl_all (gw_M ca hs rt wd ob ln kd qt df mk th cn gv) s.heap := hP
  refine lv_aload_n hx hb d_M_collect_0 rfl (lv_at hl 0 rfl) ?_
  refine lv_iconst (v := nI 0) hx hb d_M_collect_1 (by decide +kernel) ?_
  refine va_put (D := D) (ci := 1) (v := .int (nI 0)) (ty := .int) (C := R_M) (T := F_M) (N := 11) hx hb ht in_M t_M t_M_ok n_M_ne hown hK hP hD hS 0 rfl rfl 0 (by decide) (ht _ wm_346) (fun _ h9 => h9) rfl (by decide +kernel) rfl rfl (Nat.le_of_ble_eq_true rfl) d_M_collect_2 (fun H locs hP hD hS => ?_)
  have hP : va_P D cl_all (gw_M ca hs rt wd ob ln kd qt df mk 0 cn gv) H := hP
  have hD : va_D (gx_A hs 9) (gw_M ca hs rt wd ob ln kd qt df mk 0 cn gv) := hD
  refine lv_aload_n hx hb d_M_collect_5 rfl (lv_at hl 0 rfl) ?_
  refine gx_cM (n := 0) (q0 := 0) (ci := 1) (q := (R_M, F_M, 11)) (C := R_M) (own := R_M) (As := []) (rest := []) ⟨hx, hb, hml, hown, ht⟩ hg_all (c_M_gather l D ca hs (rt) (wd) (ob) (ln) (kd) (qt) (df) (mk) (0) (cn) (gv) hv) wm_403 wm_404 wm_25 wm_36 wm_405 ⟨rfl, by decide, by decide, by decide +kernel⟩ rfl ⟨rfl, rfl⟩ ⟨by decide, by decide⟩ ⟨by decide, by decide⟩ hK hP hD hS (fun _ h => h) rfl rfl rfl hl.1 rfl (Nat.le_of_ble_eq_true rfl) d_M_collect_6 (fun v w' H locs hZ hP hD hS _ _ => ?_)
  obtain ⟨rfl, rfl⟩ := hZ
  have hP : va_P D cl_all (gw_M ca hs rt (co_wd wd ob (co_mk rt wd ob ln qt)) (co_ob ob (co_mk rt wd ob ln qt)) ln (co_kd kd (co_ob ob (co_mk rt wd ob ln qt))) qt (co_df rt wd ob ln kd qt) (co_mk rt wd ob ln qt) 0 (cn + 1) (iv_c ob - iv_c (co_ob ob (co_mk rt wd ob ln qt)))) H := hP
  have hD : va_D (gx_A hs 9) (gw_M ca hs rt (co_wd wd ob (co_mk rt wd ob ln qt)) (co_ob ob (co_mk rt wd ob ln qt)) ln (co_kd kd (co_ob ob (co_mk rt wd ob ln qt))) qt (co_df rt wd ob ln kd qt) (co_mk rt wd ob ln qt) 0 (cn + 1) (iv_c ob - iv_c (co_ob ob (co_mk rt wd ob ln qt)))) := hD
  have hv2 := co_iv (co_mk rt wd ob ln qt) hv
  have hk : ∀ b, b < 16 → (co_kd kd (co_ob ob (co_mk rt wd ob ln qt))) b < 34 := fun b hb => iv_kl hv2.2.1 hb
  have hov := hv2.1
  refine lv_aload_n hx hb d_M_collect_9 rfl (lv_at hl 0 rfl) ?_
  refine va_get (D := D) (ci := 1) (v := .int (nI (iv_c ob - iv_c (co_ob ob (co_mk rt wd ob ln qt))))) (C := R_M) (T := F_M) (N := 11) hx hb ht in_M hown hK hP 0 rfl rfl 10 (by decide) (ht _ wm_356) (fun _ h9 => h9) rfl d_M_collect_10 ?_
  refine hret 13 ls (nI (iv_c ob - iv_c (co_ob ob (co_mk rt wd ob ln qt)))) _ _ _ d_M_collect_13 hP hS ?_ ?_
  · exact gw_M_adr.trans gw_M_adr.symm
  · exact ⟨by rfl, by rfl⟩

set_option maxHeartbeats 4000000 in
set_option maxRecDepth 100000 in
theorem c_M_root_in (l : Launch) (D : va_G) (ca : Nat → ClassId) (hs : Nat → Nat) (rt : Nat → Int32) (wd : Nat → Int32) (ob : Nat → Nat) (ln : Nat → Nat) (kd : Nat → Nat) (qt : Nat → Bool) (df : Nat → Bool) (mk : Nat → Bool) (th : Nat) (cn : Nat) (gv : Nat) (r : Nat) (hr8 : r < 8) (w : Int32) : Met l y_M_root (Cond.code y_M_root b_M_root 3 none :: wa_all) (rm_d 0) (va_Pc [.ref (hs 0), .int (nI r), .int (w)] (gx_I D cl_all (ty_M ca) (gw_M ca hs rt wd ob ln kd qt df mk th cn gv))) (gx_Q D cl_all (gx_A hs 9) (gw_M ca hs rt wd ob ln kd qt df mk th cn gv) (fun v w' => v = none ∧ w' = gw_M ca hs (va_up rt r w) wd ob ln kd qt df mk 0 cn gv)) 0 0 (gx_A hs 9) := by
  refine gx_mutV (by decide) (Nat.le_of_ble_eq_true rfl) gw_M_in ?_
  intro p e s m args below meth c ls Q hx hb hml ht hown hret hP hK hD hS hl
  have hl : lv_has ls 3 [(0, .ref (hs 0)), (1, .int (nI r)), (2, .int (w))] := hl
  have hown : s.vm.findClass R_M = some m.cls := hown
  have hP : va_P D cl_all (gw_M ca hs rt wd ob ln kd qt df mk th cn gv) s.heap := hP
  refine lv_aload_n hx hb d_M_root_0 rfl (lv_at hl 0 rfl) ?_
  refine lv_iload_n hx hb d_M_root_1 rfl (lv_at hl 1 rfl) ?_
  refine lv_if_lt (tgt := 11) hx hb d_M_root_2 (by decide) (fun h => absurd h (nI_pos (by omega))) (fun _ => ?_)
  refine lv_iload_n hx hb d_M_root_5 rfl (lv_at hl 1 rfl) ?_
  refine lv_bipush (v := nI 7) hx hb d_M_root_6 (by decide +kernel) ?_
  refine nx_icmp_le (tgt := 15) hx hb d_M_root_8 (by decide) (by omega) (by omega) (fun h8 => ?_) (fun h8 => ?_)
  · skip
    refine lv_iconst (v := nI 0) hx hb d_M_root_15 (by decide +kernel) ?_
    refine va_put (D := D) (ci := 1) (v := .int (nI 0)) (ty := .int) (C := R_M) (T := F_M) (N := 11) hx hb ht in_M t_M t_M_ok n_M_ne hown hK hP hD hS 0 rfl rfl 0 (by decide) (ht _ wm_346) (fun _ h9 => h9) rfl (by decide +kernel) rfl rfl (Nat.le_of_ble_eq_true rfl) d_M_root_16 (fun H locs hP hD hS => ?_)
    have hP : va_P D cl_all (gw_M ca hs rt wd ob ln kd qt df mk 0 cn gv) H := hP
    have hD : va_D (gx_A hs 9) (gw_M ca hs rt wd ob ln kd qt df mk 0 cn gv) := hD
    refine lv_aload_n hx hb d_M_root_19 rfl (lv_at hl 0 rfl) ?_
    refine va_get (D := D) (ci := 1) (v := .int (nI 0)) (C := R_M) (T := F_M) (N := 11) hx hb ht in_M hown hK hP 0 rfl rfl 0 (by decide) (ht _ wm_346) (fun _ h9 => h9) rfl d_M_root_20 ?_
    refine nx_if_ne (tgt := 33) hx hb d_M_root_23 (by decide) (by omega) (fun h23 => ?_) (fun h23 => ?_)
    · skip
      exact absurd rfl h23
    · skip
      refine lv_aload_n hx hb d_M_root_26 rfl (lv_at hl 0 rfl) ?_
      refine va_get (D := D) (ci := 1) (v := .ref (hs 1)) (C := R_M) (T := F_M) (N := 11) hx hb ht in_M hown hK hP 0 rfl rfl 1 (by decide) (ht _ wm_347) (fun _ h9 => h9) rfl d_M_root_27 ?_
      refine lv_iload_n hx hb d_M_root_30 rfl (lv_at hl 1 rfl) ?_
      refine lv_iload_n hx hb d_M_root_31 rfl (lv_at hl 2 rfl) ?_
      refine nx_rast hx hb hK hP hD hS 1 0 rt rfl rfl r (w) (by omega) (by decide) d_M_root_32 (fun H locs hP hD hS => ?_)
      have hP : va_P D cl_all (gw_M ca hs (va_up rt r (w)) wd ob ln kd qt df mk 0 cn gv) H := hP
      have hD : va_D (gx_A hs 9) (gw_M ca hs (va_up rt r (w)) wd ob ln kd qt df mk 0 cn gv) := hD
      refine hret 33 ls _ _ _ d_M_root_33 hP hS ?_ ?_
      · exact gw_M_adr.trans gw_M_adr.symm
      · exact ⟨by rfl, by rfl⟩
  · skip
    omega

set_option maxHeartbeats 4000000 in
set_option maxRecDepth 100000 in
theorem c_M_root_out (l : Launch) (D : va_G) (ca : Nat → ClassId) (hs : Nat → Nat) (rt : Nat → Int32) (wd : Nat → Int32) (ob : Nat → Nat) (ln : Nat → Nat) (kd : Nat → Nat) (qt : Nat → Bool) (df : Nat → Bool) (mk : Nat → Bool) (th : Nat) (cn : Nat) (gv : Nat) (r : Int32) (hr : ro_b r = false) (w : Int32) : Met l y_M_root (Cond.code y_M_root b_M_root 3 none :: wa_all) (rm_d 0) (va_Pc [.ref (hs 0), .int (r), .int (w)] (gx_I D cl_all (ty_M ca) (gw_M ca hs rt wd ob ln kd qt df mk th cn gv))) (gx_Q D cl_all (gx_A hs 9) (gw_M ca hs rt wd ob ln kd qt df mk th cn gv) (fun v w' => v = none ∧ w' = gw_M ca hs rt wd ob ln kd qt df mk 1 cn gv)) 0 0 (gx_A hs 9) := by
  refine gx_mutV (by decide) (Nat.le_of_ble_eq_true rfl) gw_M_in ?_
  intro p e s m args below meth c ls Q hx hb hml ht hown hret hP hK hD hS hl
  have hl : lv_has ls 3 [(0, .ref (hs 0)), (1, .int (r)), (2, .int (w))] := hl
  have hown : s.vm.findClass R_M = some m.cls := hown
  have hP : va_P D cl_all (gw_M ca hs rt wd ob ln kd qt df mk th cn gv) s.heap := hP
  refine lv_aload_n hx hb d_M_root_0 rfl (lv_at hl 0 rfl) ?_
  refine lv_iload_n hx hb d_M_root_1 rfl (lv_at hl 1 rfl) ?_
  refine lv_if_lt (tgt := 11) hx hb d_M_root_2 (by decide) (fun h2 => ?_) (fun h2 => ?_)
  · skip
    refine lv_iconst (v := nI 1) hx hb d_M_root_11 (by decide +kernel) ?_
    refine lv_goto (tgt := 16) hx hb d_M_root_12 (by decide) ?_
    refine va_put (D := D) (ci := 1) (v := .int (nI 1)) (ty := .int) (C := R_M) (T := F_M) (N := 11) hx hb ht in_M t_M t_M_ok n_M_ne hown hK hP hD hS 0 rfl rfl 0 (by decide) (ht _ wm_346) (fun _ h9 => h9) rfl (by decide +kernel) rfl rfl (Nat.le_of_ble_eq_true rfl) d_M_root_16 (fun H locs hP hD hS => ?_)
    have hP : va_P D cl_all (gw_M ca hs rt wd ob ln kd qt df mk 1 cn gv) H := hP
    have hD : va_D (gx_A hs 9) (gw_M ca hs rt wd ob ln kd qt df mk 1 cn gv) := hD
    refine lv_aload_n hx hb d_M_root_19 rfl (lv_at hl 0 rfl) ?_
    refine va_get (D := D) (ci := 1) (v := .int (nI 1)) (C := R_M) (T := F_M) (N := 11) hx hb ht in_M hown hK hP 0 rfl rfl 0 (by decide) (ht _ wm_346) (fun _ h9 => h9) rfl d_M_root_20 ?_
    refine nx_if_ne (tgt := 33) hx hb d_M_root_23 (by decide) (by omega) (fun h23 => ?_) (fun h23 => ?_)
    · skip
      refine hret 33 ls _ _ _ d_M_root_33 hP hS ?_ ?_
      · exact gw_M_adr.trans gw_M_adr.symm
      · exact ⟨by rfl, by rfl⟩
    · skip
      omega
  · skip
    refine lv_iload_n hx hb d_M_root_5 rfl (lv_at hl 1 rfl) ?_
    refine lv_bipush (v := nI 7) hx hb d_M_root_6 (by decide +kernel) ?_
    refine lv_icmp_le (tgt := 15) hx hb d_M_root_8 (by decide) (fun h8 => ?_) (fun h8 => ?_)
    · skip
      rw [ro_t h2 h8] at hr
      cases hr
    · skip
      refine lv_iconst (v := nI 1) hx hb d_M_root_11 (by decide +kernel) ?_
      refine lv_goto (tgt := 16) hx hb d_M_root_12 (by decide) ?_
      refine va_put (D := D) (ci := 1) (v := .int (nI 1)) (ty := .int) (C := R_M) (T := F_M) (N := 11) hx hb ht in_M t_M t_M_ok n_M_ne hown hK hP hD hS 0 rfl rfl 0 (by decide) (ht _ wm_346) (fun _ h9 => h9) rfl (by decide +kernel) rfl rfl (Nat.le_of_ble_eq_true rfl) d_M_root_16 (fun H locs hP hD hS => ?_)
      have hP : va_P D cl_all (gw_M ca hs rt wd ob ln kd qt df mk 1 cn gv) H := hP
      have hD : va_D (gx_A hs 9) (gw_M ca hs rt wd ob ln kd qt df mk 1 cn gv) := hD
      refine lv_aload_n hx hb d_M_root_19 rfl (lv_at hl 0 rfl) ?_
      refine va_get (D := D) (ci := 1) (v := .int (nI 1)) (C := R_M) (T := F_M) (N := 11) hx hb ht in_M hown hK hP 0 rfl rfl 0 (by decide) (ht _ wm_346) (fun _ h9 => h9) rfl d_M_root_20 ?_
      refine nx_if_ne (tgt := 33) hx hb d_M_root_23 (by decide) (by omega) (fun h23 => ?_) (fun h23 => ?_)
      · skip
        refine hret 33 ls _ _ _ d_M_root_33 hP hS ?_ ?_
        · exact gw_M_adr.trans gw_M_adr.symm
        · exact ⟨by rfl, by rfl⟩
      · skip
        omega

set_option maxHeartbeats 4000000 in
set_option maxRecDepth 100000 in
theorem c_M_rooted_in (l : Launch) (D : va_G) (ca : Nat → ClassId) (hs : Nat → Nat) (rt : Nat → Int32) (wd : Nat → Int32) (ob : Nat → Nat) (ln : Nat → Nat) (kd : Nat → Nat) (qt : Nat → Bool) (df : Nat → Bool) (mk : Nat → Bool) (th : Nat) (cn : Nat) (gv : Nat) (r : Nat) (hr8 : r < 8) : Met l y_M_rooted (Cond.code y_M_rooted b_M_rooted 2 (some .int) :: wa_all) (rm_d 0) (va_Pc [.ref (hs 0), .int (nI r)] (gx_I D cl_all (ty_M ca) (gw_M ca hs rt wd ob ln kd qt df mk th cn gv))) (gx_Q D cl_all (gx_A hs 9) (gw_M ca hs rt wd ob ln kd qt df mk th cn gv) (fun v w' => v = some (.int (rt r)) ∧ w' = gw_M ca hs rt wd ob ln kd qt df mk 0 cn gv)) 0 0 (gx_A hs 9) := by
  refine gx_mutI (by decide) (Nat.le_of_ble_eq_true rfl) gw_M_in ?_
  intro p e s m args below meth c ls Q hx hb hml ht hown hret hP hK hD hS hl
  have hl : lv_has ls 2 [(0, .ref (hs 0)), (1, .int (nI r))] := hl
  have hown : s.vm.findClass R_M = some m.cls := hown
  have hP : va_P D cl_all (gw_M ca hs rt wd ob ln kd qt df mk th cn gv) s.heap := hP
  refine lv_aload_n hx hb d_M_rooted_0 rfl (lv_at hl 0 rfl) ?_
  refine lv_iload_n hx hb d_M_rooted_1 rfl (lv_at hl 1 rfl) ?_
  refine lv_if_lt (tgt := 11) hx hb d_M_rooted_2 (by decide) (fun h => absurd h (nI_pos (by omega))) (fun _ => ?_)
  refine lv_iload_n hx hb d_M_rooted_5 rfl (lv_at hl 1 rfl) ?_
  refine lv_bipush (v := nI 7) hx hb d_M_rooted_6 (by decide +kernel) ?_
  refine nx_icmp_le (tgt := 15) hx hb d_M_rooted_8 (by decide) (by omega) (by omega) (fun h8 => ?_) (fun h8 => ?_)
  · skip
    refine lv_iconst (v := nI 0) hx hb d_M_rooted_15 (by decide +kernel) ?_
    refine va_put (D := D) (ci := 1) (v := .int (nI 0)) (ty := .int) (C := R_M) (T := F_M) (N := 11) hx hb ht in_M t_M t_M_ok n_M_ne hown hK hP hD hS 0 rfl rfl 0 (by decide) (ht _ wm_346) (fun _ h9 => h9) rfl (by decide +kernel) rfl rfl (Nat.le_of_ble_eq_true rfl) d_M_rooted_16 (fun H locs hP hD hS => ?_)
    have hP : va_P D cl_all (gw_M ca hs rt wd ob ln kd qt df mk 0 cn gv) H := hP
    have hD : va_D (gx_A hs 9) (gw_M ca hs rt wd ob ln kd qt df mk 0 cn gv) := hD
    refine lv_aload_n hx hb d_M_rooted_19 rfl (lv_at hl 0 rfl) ?_
    refine va_get (D := D) (ci := 1) (v := .int (nI 0)) (C := R_M) (T := F_M) (N := 11) hx hb ht in_M hown hK hP 0 rfl rfl 0 (by decide) (ht _ wm_346) (fun _ h9 => h9) rfl d_M_rooted_20 ?_
    refine nx_if_ne (tgt := 35) hx hb d_M_rooted_23 (by decide) (by omega) (fun h23 => ?_) (fun h23 => ?_)
    · skip
      exact absurd rfl h23
    · skip
      refine lv_aload_n hx hb d_M_rooted_26 rfl (lv_at hl 0 rfl) ?_
      refine va_get (D := D) (ci := 1) (v := .ref (hs 1)) (C := R_M) (T := F_M) (N := 11) hx hb ht in_M hown hK hP 0 rfl rfl 1 (by decide) (ht _ wm_347) (fun _ h9 => h9) rfl d_M_rooted_27 ?_
      refine lv_iload_n hx hb d_M_rooted_30 rfl (lv_at hl 1 rfl) ?_
      refine nx_rald hx hb hK hP 1 0 rt rfl rfl r (by omega) (by decide) d_M_rooted_31 ?_
      refine lv_goto (tgt := 36) hx hb d_M_rooted_32 (by decide) ?_
      refine hret 36 ls (rt r) _ _ _ d_M_rooted_36 hP hS ?_ ?_
      · exact gw_M_adr.trans gw_M_adr.symm
      · exact ⟨by rfl, by rfl⟩
  · skip
    omega

set_option maxHeartbeats 4000000 in
set_option maxRecDepth 100000 in
theorem c_M_rooted_out (l : Launch) (D : va_G) (ca : Nat → ClassId) (hs : Nat → Nat) (rt : Nat → Int32) (wd : Nat → Int32) (ob : Nat → Nat) (ln : Nat → Nat) (kd : Nat → Nat) (qt : Nat → Bool) (df : Nat → Bool) (mk : Nat → Bool) (th : Nat) (cn : Nat) (gv : Nat) (r : Int32) (hr : ro_b r = false) : Met l y_M_rooted (Cond.code y_M_rooted b_M_rooted 2 (some .int) :: wa_all) (rm_d 0) (va_Pc [.ref (hs 0), .int (r)] (gx_I D cl_all (ty_M ca) (gw_M ca hs rt wd ob ln kd qt df mk th cn gv))) (gx_Q D cl_all (gx_A hs 9) (gw_M ca hs rt wd ob ln kd qt df mk th cn gv) (fun v w' => v = some (.int (nI 0)) ∧ w' = gw_M ca hs rt wd ob ln kd qt df mk 1 cn gv)) 0 0 (gx_A hs 9) := by
  refine gx_mutI (by decide) (Nat.le_of_ble_eq_true rfl) gw_M_in ?_
  intro p e s m args below meth c ls Q hx hb hml ht hown hret hP hK hD hS hl
  have hl : lv_has ls 2 [(0, .ref (hs 0)), (1, .int (r))] := hl
  have hown : s.vm.findClass R_M = some m.cls := hown
  have hP : va_P D cl_all (gw_M ca hs rt wd ob ln kd qt df mk th cn gv) s.heap := hP
  refine lv_aload_n hx hb d_M_rooted_0 rfl (lv_at hl 0 rfl) ?_
  refine lv_iload_n hx hb d_M_rooted_1 rfl (lv_at hl 1 rfl) ?_
  refine lv_if_lt (tgt := 11) hx hb d_M_rooted_2 (by decide) (fun h2 => ?_) (fun h2 => ?_)
  · skip
    refine lv_iconst (v := nI 1) hx hb d_M_rooted_11 (by decide +kernel) ?_
    refine lv_goto (tgt := 16) hx hb d_M_rooted_12 (by decide) ?_
    refine va_put (D := D) (ci := 1) (v := .int (nI 1)) (ty := .int) (C := R_M) (T := F_M) (N := 11) hx hb ht in_M t_M t_M_ok n_M_ne hown hK hP hD hS 0 rfl rfl 0 (by decide) (ht _ wm_346) (fun _ h9 => h9) rfl (by decide +kernel) rfl rfl (Nat.le_of_ble_eq_true rfl) d_M_rooted_16 (fun H locs hP hD hS => ?_)
    have hP : va_P D cl_all (gw_M ca hs rt wd ob ln kd qt df mk 1 cn gv) H := hP
    have hD : va_D (gx_A hs 9) (gw_M ca hs rt wd ob ln kd qt df mk 1 cn gv) := hD
    refine lv_aload_n hx hb d_M_rooted_19 rfl (lv_at hl 0 rfl) ?_
    refine va_get (D := D) (ci := 1) (v := .int (nI 1)) (C := R_M) (T := F_M) (N := 11) hx hb ht in_M hown hK hP 0 rfl rfl 0 (by decide) (ht _ wm_346) (fun _ h9 => h9) rfl d_M_rooted_20 ?_
    refine nx_if_ne (tgt := 35) hx hb d_M_rooted_23 (by decide) (by omega) (fun h23 => ?_) (fun h23 => ?_)
    · skip
      refine lv_iconst (v := nI 0) hx hb d_M_rooted_35 (by decide +kernel) ?_
      refine hret 36 ls (nI 0) _ _ _ d_M_rooted_36 hP hS ?_ ?_
      · exact gw_M_adr.trans gw_M_adr.symm
      · exact ⟨by rfl, by rfl⟩
    · skip
      omega
  · skip
    refine lv_iload_n hx hb d_M_rooted_5 rfl (lv_at hl 1 rfl) ?_
    refine lv_bipush (v := nI 7) hx hb d_M_rooted_6 (by decide +kernel) ?_
    refine lv_icmp_le (tgt := 15) hx hb d_M_rooted_8 (by decide) (fun h8 => ?_) (fun h8 => ?_)
    · skip
      rw [ro_t h2 h8] at hr
      cases hr
    · skip
      refine lv_iconst (v := nI 1) hx hb d_M_rooted_11 (by decide +kernel) ?_
      refine lv_goto (tgt := 16) hx hb d_M_rooted_12 (by decide) ?_
      refine va_put (D := D) (ci := 1) (v := .int (nI 1)) (ty := .int) (C := R_M) (T := F_M) (N := 11) hx hb ht in_M t_M t_M_ok n_M_ne hown hK hP hD hS 0 rfl rfl 0 (by decide) (ht _ wm_346) (fun _ h9 => h9) rfl (by decide +kernel) rfl rfl (Nat.le_of_ble_eq_true rfl) d_M_rooted_16 (fun H locs hP hD hS => ?_)
      have hP : va_P D cl_all (gw_M ca hs rt wd ob ln kd qt df mk 1 cn gv) H := hP
      have hD : va_D (gx_A hs 9) (gw_M ca hs rt wd ob ln kd qt df mk 1 cn gv) := hD
      refine lv_aload_n hx hb d_M_rooted_19 rfl (lv_at hl 0 rfl) ?_
      refine va_get (D := D) (ci := 1) (v := .int (nI 1)) (C := R_M) (T := F_M) (N := 11) hx hb ht in_M hown hK hP 0 rfl rfl 0 (by decide) (ht _ wm_346) (fun _ h9 => h9) rfl d_M_rooted_20 ?_
      refine nx_if_ne (tgt := 35) hx hb d_M_rooted_23 (by decide) (by omega) (fun h23 => ?_) (fun h23 => ?_)
      · skip
        refine lv_iconst (v := nI 0) hx hb d_M_rooted_35 (by decide +kernel) ?_
        refine hret 36 ls (nI 0) _ _ _ d_M_rooted_36 hP hS ?_ ?_
        · exact gw_M_adr.trans gw_M_adr.symm
        · exact ⟨by rfl, by rfl⟩
      · skip
        omega

set_option maxHeartbeats 4000000 in
set_option maxRecDepth 100000 in
theorem c_M_read_in (l : Launch) (D : va_G) (ca : Nat → ClassId) (hs : Nat → Nat) (rt : Nat → Int32) (wd : Nat → Int32) (ob : Nat → Nat) (ln : Nat → Nat) (kd : Nat → Nat) (qt : Nat → Bool) (df : Nat → Bool) (mk : Nat → Bool) (th : Nat) (cn : Nat) (gv : Nat) (i : Nat) (hi : i < 512) (ho : ∀ i, i < 512 → ob i < 513) (hne : ob i ≠ 0) : Met l y_M_read (Cond.code y_M_read b_M_read 2 (some .int) :: wa_all) (rm_d 3) (va_Pc [.ref (hs 0), .int (nI (4096 + i))] (gx_I D cl_all (ty_M ca) (gw_M ca hs rt wd ob ln kd qt df mk th cn gv))) (gx_Q D cl_all (gx_A hs 9) (gw_M ca hs rt wd ob ln kd qt df mk th cn gv) (fun v w' => v = some (.int (wd i)) ∧ w' = gw_M ca hs rt wd ob ln kd qt df mk 0 cn gv)) 0 0 (gx_A hs 9) := by
  refine gx_mutI (by decide) (Nat.le_of_ble_eq_true rfl) gw_M_in ?_
  intro p e s m args below meth c ls Q hx hb hml ht hown hret hP hK hD hS hl
  have hl : lv_has ls 2 [(0, .ref (hs 0)), (1, .int (nI (4096 + i)))] := hl
  have hown : s.vm.findClass R_M = some m.cls := hown
  have hP : va_P D cl_all (gw_M ca hs rt wd ob ln kd qt df mk th cn gv) s.heap := hP
  refine lv_aload_n hx hb d_M_read_0 rfl (lv_at hl 0 rfl) ?_
  refine lv_aload_n hx hb d_M_read_1 rfl (lv_at hl 0 rfl) ?_
  refine lv_iload_n hx hb d_M_read_2 rfl (lv_at hl 1 rfl) ?_
  refine gx_cV (n := 1) (q0 := 0) (ci := 1) (q := (R_M, F_M, 11)) (C := R_M) (own := R_M) (As := [.int (nI (4096 + i))]) (rest := [.ref (hs 0)]) ⟨hx, hb, hml, hown, ht⟩ hg_all (c_M_bar_in l D ca hs (rt) (wd) (ob) (ln) (kd) (qt) (df) (mk) (th) (cn) (gv) i hi ho) wm_443 wm_444 wm_32 wm_36 wm_445 ⟨rfl, by decide, by decide, by decide +kernel⟩ rfl ⟨rfl, rfl⟩ ⟨by decide, by decide⟩ ⟨by decide, by decide⟩ hK hP hD rfl rfl rfl hl.1 rfl (Nat.le_of_ble_eq_true rfl) d_M_read_3 ?_
  refine nx_top (show nI (br_n (ob i)) = nI 0 by unfold br_n; rw [if_neg hne]) ?_
  refine va_put (D := D) (ci := 1) (v := .int (nI 0)) (ty := .int) (C := R_M) (T := F_M) (N := 11) hx hb ht in_M t_M t_M_ok n_M_ne hown hK hP hD hS 0 rfl rfl 0 (by decide) (ht _ wm_346) (fun _ h9 => h9) rfl (by decide +kernel) rfl rfl (Nat.le_of_ble_eq_true rfl) d_M_read_6 (fun H locs hP hD hS => ?_)
  have hP : va_P D cl_all (gw_M ca hs rt wd ob ln kd qt df mk 0 cn gv) H := hP
  have hD : va_D (gx_A hs 9) (gw_M ca hs rt wd ob ln kd qt df mk 0 cn gv) := hD
  refine lv_aload_n hx hb d_M_read_9 rfl (lv_at hl 0 rfl) ?_
  refine va_get (D := D) (ci := 1) (v := .int (nI 0)) (C := R_M) (T := F_M) (N := 11) hx hb ht in_M hown hK hP 0 rfl rfl 0 (by decide) (ht _ wm_346) (fun _ h9 => h9) rfl d_M_read_10 ?_
  refine nx_if_ne (tgt := 29) hx hb d_M_read_13 (by decide) (by omega) (fun h13 => ?_) (fun h13 => ?_)
  · skip
    exact absurd rfl h13
  · skip
    refine lv_aload_n hx hb d_M_read_16 rfl (lv_at hl 0 rfl) ?_
    refine va_get (D := D) (ci := 1) (v := .ref (hs 2)) (C := R_M) (T := F_M) (N := 11) hx hb ht in_M hown hK hP 0 rfl rfl 2 (by decide) (ht _ wm_348) (fun _ h9 => h9) rfl d_M_read_17 ?_
    refine lv_iload_n hx hb d_M_read_20 rfl (lv_at hl 1 rfl) ?_
    refine lv_sipush (v := nI 4096) hx hb d_M_read_21 (by decide +kernel) ?_
    refine nx_isub hx hb d_M_read_24 (by omega) ?_
    refine nx_top s4_e ?_
    refine nx_rald hx hb hK hP 2 1 wd rfl rfl i (by omega) (by decide) d_M_read_25 ?_
    refine lv_goto (tgt := 30) hx hb d_M_read_26 (by decide) ?_
    refine hret 30 ls (wd i) _ _ _ d_M_read_30 hP hS ?_ ?_
    · exact gw_M_adr.trans gw_M_adr.symm
    · exact ⟨by rfl, by rfl⟩

set_option maxHeartbeats 4000000 in
set_option maxRecDepth 100000 in
theorem c_M_read_no (l : Launch) (D : va_G) (ca : Nat → ClassId) (hs : Nat → Nat) (rt : Nat → Int32) (wd : Nat → Int32) (ob : Nat → Nat) (ln : Nat → Nat) (kd : Nat → Nat) (qt : Nat → Bool) (df : Nat → Bool) (mk : Nat → Bool) (th : Nat) (cn : Nat) (gv : Nat) (i : Nat) (hi : i < 512) (ho : ∀ i, i < 512 → ob i < 513) (hne : ob i = 0) : Met l y_M_read (Cond.code y_M_read b_M_read 2 (some .int) :: wa_all) (rm_d 3) (va_Pc [.ref (hs 0), .int (nI (4096 + i))] (gx_I D cl_all (ty_M ca) (gw_M ca hs rt wd ob ln kd qt df mk th cn gv))) (gx_Q D cl_all (gx_A hs 9) (gw_M ca hs rt wd ob ln kd qt df mk th cn gv) (fun v w' => v = some (.int (nI 0)) ∧ w' = gw_M ca hs rt wd ob ln kd qt df mk 2 cn gv)) 0 0 (gx_A hs 9) := by
  refine gx_mutI (by decide) (Nat.le_of_ble_eq_true rfl) gw_M_in ?_
  intro p e s m args below meth c ls Q hx hb hml ht hown hret hP hK hD hS hl
  have hl : lv_has ls 2 [(0, .ref (hs 0)), (1, .int (nI (4096 + i)))] := hl
  have hown : s.vm.findClass R_M = some m.cls := hown
  have hP : va_P D cl_all (gw_M ca hs rt wd ob ln kd qt df mk th cn gv) s.heap := hP
  refine lv_aload_n hx hb d_M_read_0 rfl (lv_at hl 0 rfl) ?_
  refine lv_aload_n hx hb d_M_read_1 rfl (lv_at hl 0 rfl) ?_
  refine lv_iload_n hx hb d_M_read_2 rfl (lv_at hl 1 rfl) ?_
  refine gx_cV (n := 1) (q0 := 0) (ci := 1) (q := (R_M, F_M, 11)) (C := R_M) (own := R_M) (As := [.int (nI (4096 + i))]) (rest := [.ref (hs 0)]) ⟨hx, hb, hml, hown, ht⟩ hg_all (c_M_bar_in l D ca hs (rt) (wd) (ob) (ln) (kd) (qt) (df) (mk) (th) (cn) (gv) i hi ho) wm_443 wm_444 wm_32 wm_36 wm_445 ⟨rfl, by decide, by decide, by decide +kernel⟩ rfl ⟨rfl, rfl⟩ ⟨by decide, by decide⟩ ⟨by decide, by decide⟩ hK hP hD rfl rfl rfl hl.1 rfl (Nat.le_of_ble_eq_true rfl) d_M_read_3 ?_
  refine nx_top (show nI (br_n (ob i)) = nI 2 by unfold br_n; rw [if_pos hne]) ?_
  refine va_put (D := D) (ci := 1) (v := .int (nI 2)) (ty := .int) (C := R_M) (T := F_M) (N := 11) hx hb ht in_M t_M t_M_ok n_M_ne hown hK hP hD hS 0 rfl rfl 0 (by decide) (ht _ wm_346) (fun _ h9 => h9) rfl (by decide +kernel) rfl rfl (Nat.le_of_ble_eq_true rfl) d_M_read_6 (fun H locs hP hD hS => ?_)
  have hP : va_P D cl_all (gw_M ca hs rt wd ob ln kd qt df mk 2 cn gv) H := hP
  have hD : va_D (gx_A hs 9) (gw_M ca hs rt wd ob ln kd qt df mk 2 cn gv) := hD
  refine lv_aload_n hx hb d_M_read_9 rfl (lv_at hl 0 rfl) ?_
  refine va_get (D := D) (ci := 1) (v := .int (nI 2)) (C := R_M) (T := F_M) (N := 11) hx hb ht in_M hown hK hP 0 rfl rfl 0 (by decide) (ht _ wm_346) (fun _ h9 => h9) rfl d_M_read_10 ?_
  refine nx_if_ne (tgt := 29) hx hb d_M_read_13 (by decide) (by omega) (fun h13 => ?_) (fun h13 => ?_)
  · skip
    refine lv_iconst (v := nI 0) hx hb d_M_read_29 (by decide +kernel) ?_
    refine hret 30 ls (nI 0) _ _ _ d_M_read_30 hP hS ?_ ?_
    · exact gw_M_adr.trans gw_M_adr.symm
    · exact ⟨by rfl, by rfl⟩
  · skip
    omega

set_option maxHeartbeats 4000000 in
set_option maxRecDepth 100000 in
theorem c_M_read_out (l : Launch) (D : va_G) (ca : Nat → ClassId) (hs : Nat → Nat) (rt : Nat → Int32) (wd : Nat → Int32) (ob : Nat → Nat) (ln : Nat → Nat) (kd : Nat → Nat) (qt : Nat → Bool) (df : Nat → Bool) (mk : Nat → Bool) (th : Nat) (cn : Nat) (gv : Nat) (w : Int32) (hw : ad_b w = false) : Met l y_M_read (Cond.code y_M_read b_M_read 2 (some .int) :: wa_all) (rm_d 3) (va_Pc [.ref (hs 0), .int (w)] (gx_I D cl_all (ty_M ca) (gw_M ca hs rt wd ob ln kd qt df mk th cn gv))) (gx_Q D cl_all (gx_A hs 9) (gw_M ca hs rt wd ob ln kd qt df mk th cn gv) (fun v w' => v = some (.int (nI 0)) ∧ w' = gw_M ca hs rt wd ob ln kd qt df mk 1 cn gv)) 0 0 (gx_A hs 9) := by
  refine gx_mutI (by decide) (Nat.le_of_ble_eq_true rfl) gw_M_in ?_
  intro p e s m args below meth c ls Q hx hb hml ht hown hret hP hK hD hS hl
  have hl : lv_has ls 2 [(0, .ref (hs 0)), (1, .int (w))] := hl
  have hown : s.vm.findClass R_M = some m.cls := hown
  have hP : va_P D cl_all (gw_M ca hs rt wd ob ln kd qt df mk th cn gv) s.heap := hP
  refine lv_aload_n hx hb d_M_read_0 rfl (lv_at hl 0 rfl) ?_
  refine lv_aload_n hx hb d_M_read_1 rfl (lv_at hl 0 rfl) ?_
  refine lv_iload_n hx hb d_M_read_2 rfl (lv_at hl 1 rfl) ?_
  refine gx_cV (n := 1) (q0 := 0) (ci := 1) (q := (R_M, F_M, 11)) (C := R_M) (own := R_M) (As := [.int (w)]) (rest := [.ref (hs 0)]) ⟨hx, hb, hml, hown, ht⟩ hg_all (c_M_bar_out l D ca hs (rt) (wd) (ob) (ln) (kd) (qt) (df) (mk) (th) (cn) (gv) w hw) wm_443 wm_444 wm_32 wm_36 wm_445 ⟨rfl, by decide, by decide, by decide +kernel⟩ rfl ⟨rfl, rfl⟩ ⟨by decide, by decide⟩ ⟨by decide, by decide⟩ hK hP hD rfl rfl rfl hl.1 rfl (Nat.le_of_ble_eq_true rfl) d_M_read_3 ?_
  refine va_put (D := D) (ci := 1) (v := .int (nI 1)) (ty := .int) (C := R_M) (T := F_M) (N := 11) hx hb ht in_M t_M t_M_ok n_M_ne hown hK hP hD hS 0 rfl rfl 0 (by decide) (ht _ wm_346) (fun _ h9 => h9) rfl (by decide +kernel) rfl rfl (Nat.le_of_ble_eq_true rfl) d_M_read_6 (fun H locs hP hD hS => ?_)
  have hP : va_P D cl_all (gw_M ca hs rt wd ob ln kd qt df mk 1 cn gv) H := hP
  have hD : va_D (gx_A hs 9) (gw_M ca hs rt wd ob ln kd qt df mk 1 cn gv) := hD
  refine lv_aload_n hx hb d_M_read_9 rfl (lv_at hl 0 rfl) ?_
  refine va_get (D := D) (ci := 1) (v := .int (nI 1)) (C := R_M) (T := F_M) (N := 11) hx hb ht in_M hown hK hP 0 rfl rfl 0 (by decide) (ht _ wm_346) (fun _ h9 => h9) rfl d_M_read_10 ?_
  refine nx_if_ne (tgt := 29) hx hb d_M_read_13 (by decide) (by omega) (fun h13 => ?_) (fun h13 => ?_)
  · skip
    refine lv_iconst (v := nI 0) hx hb d_M_read_29 (by decide +kernel) ?_
    refine hret 30 ls (nI 0) _ _ _ d_M_read_30 hP hS ?_ ?_
    · exact gw_M_adr.trans gw_M_adr.symm
    · exact ⟨by rfl, by rfl⟩
  · skip
    omega

set_option maxHeartbeats 4000000 in
set_option maxRecDepth 100000 in
theorem c_M_write_in (l : Launch) (D : va_G) (ca : Nat → ClassId) (hs : Nat → Nat) (rt : Nat → Int32) (wd : Nat → Int32) (ob : Nat → Nat) (ln : Nat → Nat) (kd : Nat → Nat) (qt : Nat → Bool) (df : Nat → Bool) (mk : Nat → Bool) (th : Nat) (cn : Nat) (gv : Nat) (i : Nat) (hi : i < 512) (ho : ∀ i, i < 512 → ob i < 513) (hne : ob i ≠ 0) (x : Int32) : Met l y_M_write (Cond.code y_M_write b_M_write 4 (some .int) :: wa_all) (rm_d 3) (va_Pc [.ref (hs 0), .int (nI (4096 + i)), .int (x)] (gx_I D cl_all (ty_M ca) (gw_M ca hs rt wd ob ln kd qt df mk th cn gv))) (gx_Q D cl_all (gx_A hs 9) (gw_M ca hs rt wd ob ln kd qt df mk th cn gv) (fun v w' => v = some (.int (wd i)) ∧ w' = gw_M ca hs rt (va_up wd i x) ob ln kd qt df mk 0 cn gv)) 0 0 (gx_A hs 9) := by
  refine gx_mutI (by decide) (Nat.le_of_ble_eq_true rfl) gw_M_in ?_
  intro p e s m args below meth c ls Q hx hb hml ht hown hret hP hK hD hS hl
  have hl : lv_has ls 4 [(0, .ref (hs 0)), (1, .int (nI (4096 + i))), (2, .int (x))] := hl
  have hown : s.vm.findClass R_M = some m.cls := hown
  have hP : va_P D cl_all (gw_M ca hs rt wd ob ln kd qt df mk th cn gv) s.heap := hP
  refine lv_aload_n hx hb d_M_write_0 rfl (lv_at hl 0 rfl) ?_
  refine lv_aload_n hx hb d_M_write_1 rfl (lv_at hl 0 rfl) ?_
  refine lv_iload_n hx hb d_M_write_2 rfl (lv_at hl 1 rfl) ?_
  refine gx_cV (n := 1) (q0 := 0) (ci := 1) (q := (R_M, F_M, 11)) (C := R_M) (own := R_M) (As := [.int (nI (4096 + i))]) (rest := [.ref (hs 0)]) ⟨hx, hb, hml, hown, ht⟩ hg_all (c_M_bar_in l D ca hs (rt) (wd) (ob) (ln) (kd) (qt) (df) (mk) (th) (cn) (gv) i hi ho) wm_443 wm_444 wm_32 wm_36 wm_445 ⟨rfl, by decide, by decide, by decide +kernel⟩ rfl ⟨rfl, rfl⟩ ⟨by decide, by decide⟩ ⟨by decide, by decide⟩ hK hP hD rfl rfl rfl hl.1 rfl (Nat.le_of_ble_eq_true rfl) d_M_write_3 ?_
  refine nx_top (show nI (br_n (ob i)) = nI 0 by unfold br_n; rw [if_neg hne]) ?_
  refine va_put (D := D) (ci := 1) (v := .int (nI 0)) (ty := .int) (C := R_M) (T := F_M) (N := 11) hx hb ht in_M t_M t_M_ok n_M_ne hown hK hP hD hS 0 rfl rfl 0 (by decide) (ht _ wm_346) (fun _ h9 => h9) rfl (by decide +kernel) rfl rfl (Nat.le_of_ble_eq_true rfl) d_M_write_6 (fun H locs hP hD hS => ?_)
  have hP : va_P D cl_all (gw_M ca hs rt wd ob ln kd qt df mk 0 cn gv) H := hP
  have hD : va_D (gx_A hs 9) (gw_M ca hs rt wd ob ln kd qt df mk 0 cn gv) := hD
  refine lv_aload_n hx hb d_M_write_9 rfl (lv_at hl 0 rfl) ?_
  refine va_get (D := D) (ci := 1) (v := .int (nI 0)) (C := R_M) (T := F_M) (N := 11) hx hb ht in_M hown hK hP 0 rfl rfl 0 (by decide) (ht _ wm_346) (fun _ h9 => h9) rfl d_M_write_10 ?_
  refine nx_if_le (tgt := 18) hx hb d_M_write_13 (by decide) (by omega) (fun h13 => ?_) (fun h13 => ?_)
  · skip
    refine lv_aload_n hx hb d_M_write_18 rfl (lv_at hl 0 rfl) ?_
    refine va_get (D := D) (ci := 1) (v := .ref (hs 2)) (C := R_M) (T := F_M) (N := 11) hx hb ht in_M hown hK hP 0 rfl rfl 2 (by decide) (ht _ wm_348) (fun _ h9 => h9) rfl d_M_write_19 ?_
    refine lv_iload_n hx hb d_M_write_22 rfl (lv_at hl 1 rfl) ?_
    refine lv_sipush (v := nI 4096) hx hb d_M_write_23 (by decide +kernel) ?_
    refine nx_isub hx hb d_M_write_26 (by omega) ?_
    refine nx_top s4_e ?_
    refine nx_rald hx hb hK hP 2 1 wd rfl rfl i (by omega) (by decide) d_M_write_27 ?_
    refine lv_istore_n (lv' := [(3, .int (wd i)), (0, .ref (hs 0)), (1, .int (nI (4096 + i))), (2, .int (x))]) hx hb d_M_write_28 rfl hl (by decide) rfl (fun ls hl => ?_)
    refine lv_aload_n hx hb d_M_write_29 rfl (lv_at hl 1 rfl) ?_
    refine va_get (D := D) (ci := 1) (v := .ref (hs 2)) (C := R_M) (T := F_M) (N := 11) hx hb ht in_M hown hK hP 0 rfl rfl 2 (by decide) (ht _ wm_348) (fun _ h9 => h9) rfl d_M_write_30 ?_
    refine lv_iload_n hx hb d_M_write_33 rfl (lv_at hl 2 rfl) ?_
    refine lv_sipush (v := nI 4096) hx hb d_M_write_34 (by decide +kernel) ?_
    refine nx_isub hx hb d_M_write_37 (by omega) ?_
    refine nx_top s4_e ?_
    refine lv_iload_n hx hb d_M_write_38 rfl (lv_at hl 3 rfl) ?_
    refine nx_rast hx hb hK hP hD hS 2 1 wd rfl rfl i (x) (by omega) (by decide) d_M_write_39 (fun H locs hP hD hS => ?_)
    have hP : va_P D cl_all (gw_M ca hs rt (va_up wd i (x)) ob ln kd qt df mk 0 cn gv) H := hP
    have hD : va_D (gx_A hs 9) (gw_M ca hs rt (va_up wd i (x)) ob ln kd qt df mk 0 cn gv) := hD
    refine lv_iload_n hx hb d_M_write_40 rfl (lv_at hl 0 rfl) ?_
    refine hret 41 ls (wd i) _ _ _ d_M_write_41 hP hS ?_ ?_
    · exact gw_M_adr.trans gw_M_adr.symm
    · exact ⟨by rfl, by rfl⟩
  · skip
    exact absurd rfl h13

set_option maxHeartbeats 4000000 in
set_option maxRecDepth 100000 in
theorem c_M_write_no (l : Launch) (D : va_G) (ca : Nat → ClassId) (hs : Nat → Nat) (rt : Nat → Int32) (wd : Nat → Int32) (ob : Nat → Nat) (ln : Nat → Nat) (kd : Nat → Nat) (qt : Nat → Bool) (df : Nat → Bool) (mk : Nat → Bool) (th : Nat) (cn : Nat) (gv : Nat) (i : Nat) (hi : i < 512) (ho : ∀ i, i < 512 → ob i < 513) (hne : ob i = 0) (x : Int32) : Met l y_M_write (Cond.code y_M_write b_M_write 4 (some .int) :: wa_all) (rm_d 3) (va_Pc [.ref (hs 0), .int (nI (4096 + i)), .int (x)] (gx_I D cl_all (ty_M ca) (gw_M ca hs rt wd ob ln kd qt df mk th cn gv))) (gx_Q D cl_all (gx_A hs 9) (gw_M ca hs rt wd ob ln kd qt df mk th cn gv) (fun v w' => v = some (.int (nI 0)) ∧ w' = gw_M ca hs rt wd ob ln kd qt df mk 2 cn gv)) 0 0 (gx_A hs 9) := by
  refine gx_mutI (by decide) (Nat.le_of_ble_eq_true rfl) gw_M_in ?_
  intro p e s m args below meth c ls Q hx hb hml ht hown hret hP hK hD hS hl
  have hl : lv_has ls 4 [(0, .ref (hs 0)), (1, .int (nI (4096 + i))), (2, .int (x))] := hl
  have hown : s.vm.findClass R_M = some m.cls := hown
  have hP : va_P D cl_all (gw_M ca hs rt wd ob ln kd qt df mk th cn gv) s.heap := hP
  refine lv_aload_n hx hb d_M_write_0 rfl (lv_at hl 0 rfl) ?_
  refine lv_aload_n hx hb d_M_write_1 rfl (lv_at hl 0 rfl) ?_
  refine lv_iload_n hx hb d_M_write_2 rfl (lv_at hl 1 rfl) ?_
  refine gx_cV (n := 1) (q0 := 0) (ci := 1) (q := (R_M, F_M, 11)) (C := R_M) (own := R_M) (As := [.int (nI (4096 + i))]) (rest := [.ref (hs 0)]) ⟨hx, hb, hml, hown, ht⟩ hg_all (c_M_bar_in l D ca hs (rt) (wd) (ob) (ln) (kd) (qt) (df) (mk) (th) (cn) (gv) i hi ho) wm_443 wm_444 wm_32 wm_36 wm_445 ⟨rfl, by decide, by decide, by decide +kernel⟩ rfl ⟨rfl, rfl⟩ ⟨by decide, by decide⟩ ⟨by decide, by decide⟩ hK hP hD rfl rfl rfl hl.1 rfl (Nat.le_of_ble_eq_true rfl) d_M_write_3 ?_
  refine nx_top (show nI (br_n (ob i)) = nI 2 by unfold br_n; rw [if_pos hne]) ?_
  refine va_put (D := D) (ci := 1) (v := .int (nI 2)) (ty := .int) (C := R_M) (T := F_M) (N := 11) hx hb ht in_M t_M t_M_ok n_M_ne hown hK hP hD hS 0 rfl rfl 0 (by decide) (ht _ wm_346) (fun _ h9 => h9) rfl (by decide +kernel) rfl rfl (Nat.le_of_ble_eq_true rfl) d_M_write_6 (fun H locs hP hD hS => ?_)
  have hP : va_P D cl_all (gw_M ca hs rt wd ob ln kd qt df mk 2 cn gv) H := hP
  have hD : va_D (gx_A hs 9) (gw_M ca hs rt wd ob ln kd qt df mk 2 cn gv) := hD
  refine lv_aload_n hx hb d_M_write_9 rfl (lv_at hl 0 rfl) ?_
  refine va_get (D := D) (ci := 1) (v := .int (nI 2)) (C := R_M) (T := F_M) (N := 11) hx hb ht in_M hown hK hP 0 rfl rfl 0 (by decide) (ht _ wm_346) (fun _ h9 => h9) rfl d_M_write_10 ?_
  refine nx_if_le (tgt := 18) hx hb d_M_write_13 (by decide) (by omega) (fun h13 => ?_) (fun h13 => ?_)
  · skip
    omega
  · skip
    refine lv_iconst (v := nI 0) hx hb d_M_write_16 (by decide +kernel) ?_
    refine hret 17 ls (nI 0) _ _ _ d_M_write_17 hP hS ?_ ?_
    · exact gw_M_adr.trans gw_M_adr.symm
    · exact ⟨by rfl, by rfl⟩

set_option maxHeartbeats 4000000 in
set_option maxRecDepth 100000 in
theorem c_M_write_out (l : Launch) (D : va_G) (ca : Nat → ClassId) (hs : Nat → Nat) (rt : Nat → Int32) (wd : Nat → Int32) (ob : Nat → Nat) (ln : Nat → Nat) (kd : Nat → Nat) (qt : Nat → Bool) (df : Nat → Bool) (mk : Nat → Bool) (th : Nat) (cn : Nat) (gv : Nat) (w : Int32) (hw : ad_b w = false) (x : Int32) : Met l y_M_write (Cond.code y_M_write b_M_write 4 (some .int) :: wa_all) (rm_d 3) (va_Pc [.ref (hs 0), .int (w), .int (x)] (gx_I D cl_all (ty_M ca) (gw_M ca hs rt wd ob ln kd qt df mk th cn gv))) (gx_Q D cl_all (gx_A hs 9) (gw_M ca hs rt wd ob ln kd qt df mk th cn gv) (fun v w' => v = some (.int (nI 0)) ∧ w' = gw_M ca hs rt wd ob ln kd qt df mk 1 cn gv)) 0 0 (gx_A hs 9) := by
  refine gx_mutI (by decide) (Nat.le_of_ble_eq_true rfl) gw_M_in ?_
  intro p e s m args below meth c ls Q hx hb hml ht hown hret hP hK hD hS hl
  have hl : lv_has ls 4 [(0, .ref (hs 0)), (1, .int (w)), (2, .int (x))] := hl
  have hown : s.vm.findClass R_M = some m.cls := hown
  have hP : va_P D cl_all (gw_M ca hs rt wd ob ln kd qt df mk th cn gv) s.heap := hP
  refine lv_aload_n hx hb d_M_write_0 rfl (lv_at hl 0 rfl) ?_
  refine lv_aload_n hx hb d_M_write_1 rfl (lv_at hl 0 rfl) ?_
  refine lv_iload_n hx hb d_M_write_2 rfl (lv_at hl 1 rfl) ?_
  refine gx_cV (n := 1) (q0 := 0) (ci := 1) (q := (R_M, F_M, 11)) (C := R_M) (own := R_M) (As := [.int (w)]) (rest := [.ref (hs 0)]) ⟨hx, hb, hml, hown, ht⟩ hg_all (c_M_bar_out l D ca hs (rt) (wd) (ob) (ln) (kd) (qt) (df) (mk) (th) (cn) (gv) w hw) wm_443 wm_444 wm_32 wm_36 wm_445 ⟨rfl, by decide, by decide, by decide +kernel⟩ rfl ⟨rfl, rfl⟩ ⟨by decide, by decide⟩ ⟨by decide, by decide⟩ hK hP hD rfl rfl rfl hl.1 rfl (Nat.le_of_ble_eq_true rfl) d_M_write_3 ?_
  refine va_put (D := D) (ci := 1) (v := .int (nI 1)) (ty := .int) (C := R_M) (T := F_M) (N := 11) hx hb ht in_M t_M t_M_ok n_M_ne hown hK hP hD hS 0 rfl rfl 0 (by decide) (ht _ wm_346) (fun _ h9 => h9) rfl (by decide +kernel) rfl rfl (Nat.le_of_ble_eq_true rfl) d_M_write_6 (fun H locs hP hD hS => ?_)
  have hP : va_P D cl_all (gw_M ca hs rt wd ob ln kd qt df mk 1 cn gv) H := hP
  have hD : va_D (gx_A hs 9) (gw_M ca hs rt wd ob ln kd qt df mk 1 cn gv) := hD
  refine lv_aload_n hx hb d_M_write_9 rfl (lv_at hl 0 rfl) ?_
  refine va_get (D := D) (ci := 1) (v := .int (nI 1)) (C := R_M) (T := F_M) (N := 11) hx hb ht in_M hown hK hP 0 rfl rfl 0 (by decide) (ht _ wm_346) (fun _ h9 => h9) rfl d_M_write_10 ?_
  refine nx_if_le (tgt := 18) hx hb d_M_write_13 (by decide) (by omega) (fun h13 => ?_) (fun h13 => ?_)
  · skip
    omega
  · skip
    refine lv_iconst (v := nI 0) hx hb d_M_write_16 (by decide +kernel) ?_
    refine hret 17 ls (nI 0) _ _ _ d_M_write_17 hP hS ?_ ?_
    · exact gw_M_adr.trans gw_M_adr.symm
    · exact ⟨by rfl, by rfl⟩

set_option maxHeartbeats 4000000 in
set_option maxRecDepth 100000 in
theorem c_M_base_in (l : Launch) (D : va_G) (ca : Nat → ClassId) (hs : Nat → Nat) (rt : Nat → Int32) (wd : Nat → Int32) (ob : Nat → Nat) (ln : Nat → Nat) (kd : Nat → Nat) (qt : Nat → Bool) (df : Nat → Bool) (mk : Nat → Bool) (th : Nat) (cn : Nat) (gv : Nat) (i : Nat) (hi : i < 512) (ho : ∀ i, i < 512 → ob i < 513) : Met l y_M_base (Cond.code y_M_base b_M_base 3 (some .int) :: wa_all) (rm_d 2) (va_Pc [.ref (hs 0), .int (nI (4096 + i))] (gx_I D cl_all (ty_M ca) (gw_M ca hs rt wd ob ln kd qt df mk th cn gv))) (gx_Q D cl_all (gx_A hs 9) (gw_M ca hs rt wd ob ln kd qt df mk th cn gv) (fun v w' => v = some (.int (ba_e (ob i))) ∧ w' = gw_M ca hs rt wd ob ln kd qt df mk 0 cn gv)) 0 0 (gx_A hs 9) := by
  refine gx_mutI (by decide) (Nat.le_of_ble_eq_true rfl) gw_M_in ?_
  intro p e s m args below meth c ls Q hx hb hml ht hown hret hP hK hD hS hl
  have hl : lv_has ls 3 [(0, .ref (hs 0)), (1, .int (nI (4096 + i)))] := hl
  have hown : s.vm.findClass R_M = some m.cls := hown
  have hP : va_P D cl_all (gw_M ca hs rt wd ob ln kd qt df mk th cn gv) s.heap := hP
  refine lv_aload_n hx hb d_M_base_0 rfl (lv_at hl 0 rfl) ?_
  refine lv_iconst (v := nI 0) hx hb d_M_base_1 (by decide +kernel) ?_
  refine va_put (D := D) (ci := 1) (v := .int (nI 0)) (ty := .int) (C := R_M) (T := F_M) (N := 11) hx hb ht in_M t_M t_M_ok n_M_ne hown hK hP hD hS 0 rfl rfl 0 (by decide) (ht _ wm_346) (fun _ h9 => h9) rfl (by decide +kernel) rfl rfl (Nat.le_of_ble_eq_true rfl) d_M_base_2 (fun H locs hP hD hS => ?_)
  have hP : va_P D cl_all (gw_M ca hs rt wd ob ln kd qt df mk 0 cn gv) H := hP
  have hD : va_D (gx_A hs 9) (gw_M ca hs rt wd ob ln kd qt df mk 0 cn gv) := hD
  refine lv_aload_n hx hb d_M_base_5 rfl (lv_at hl 0 rfl) ?_
  refine lv_iload_n hx hb d_M_base_6 rfl (lv_at hl 1 rfl) ?_
  refine gx_cV (n := 1) (q0 := 0) (ci := 1) (q := (R_M, F_M, 11)) (C := R_M) (own := R_M) (As := [.int (nI (4096 + i))]) (rest := []) ⟨hx, hb, hml, hown, ht⟩ hg_all (c_M_objectAt_in l D ca hs (rt) (wd) (ob) (ln) (kd) (qt) (df) (mk) (0) (cn) (gv) i hi) wm_415 wm_416 wm_28 wm_36 wm_417 ⟨rfl, by decide, by decide, by decide +kernel⟩ rfl ⟨rfl, rfl⟩ ⟨by decide, by decide⟩ ⟨by decide, by decide⟩ hK hP hD rfl rfl rfl hl.1 rfl (Nat.le_of_ble_eq_true rfl) d_M_base_7 ?_
  rcases zs_ca (ob i) with ⟨hc, e9⟩ | ⟨p, hc, e9⟩
  · skip
    refine nx_top e9 ?_
    refine lv_istore_n (lv' := [(2, .int (-1)), (0, .ref (hs 0)), (1, .int (nI (4096 + i)))]) hx hb d_M_base_10 rfl hl (by decide) rfl (fun ls hl => ?_)
    refine lv_iload_n hx hb d_M_base_11 rfl (lv_at hl 0 rfl) ?_
    refine lv_if_ge (tgt := 19) hx hb d_M_base_12 (by decide) (fun h => absurd h (by decide)) (fun _ => ?_)
    refine lv_iconst (v := -1) hx hb d_M_base_15 (by decide +kernel) ?_
    refine lv_goto (tgt := 24) hx hb d_M_base_16 (by decide) ?_
    refine hret 24 ls (-1) _ _ _ d_M_base_24 hP hS ?_ ?_
    · exact gw_M_adr.trans gw_M_adr.symm
    · exact ⟨by rw [hc]; rfl, by rfl⟩
  · skip
    have hp := ho i hi
    rw [hc] at hp
    refine nx_top e9 ?_
    refine lv_istore_n (lv' := [(2, .int (nI p)), (0, .ref (hs 0)), (1, .int (nI (4096 + i)))]) hx hb d_M_base_10 rfl hl (by decide) rfl (fun ls hl => ?_)
    refine lv_iload_n hx hb d_M_base_11 rfl (lv_at hl 0 rfl) ?_
    refine lv_if_ge (tgt := 19) hx hb d_M_base_12 (by decide) (fun _ => ?_) (fun h => absurd (nI_pos' (by omega)) h)
    refine lv_sipush (v := nI 4096) hx hb d_M_base_19 (by decide +kernel) ?_
    refine lv_iload_n hx hb d_M_base_22 rfl (lv_at hl 0 rfl) ?_
    refine nx_iadd hx hb d_M_base_23 ?_
    refine hret 24 ls (nI (4096 + p)) _ _ _ d_M_base_24 hP hS ?_ ?_
    · exact gw_M_adr.trans gw_M_adr.symm
    · exact ⟨by rw [hc]; unfold ba_e; rw [if_neg (by omega), Nat.add_sub_cancel], by rfl⟩

set_option maxHeartbeats 4000000 in
set_option maxRecDepth 100000 in
theorem c_M_base_out (l : Launch) (D : va_G) (ca : Nat → ClassId) (hs : Nat → Nat) (rt : Nat → Int32) (wd : Nat → Int32) (ob : Nat → Nat) (ln : Nat → Nat) (kd : Nat → Nat) (qt : Nat → Bool) (df : Nat → Bool) (mk : Nat → Bool) (th : Nat) (cn : Nat) (gv : Nat) (w : Int32) (hw : ad_b w = false) : Met l y_M_base (Cond.code y_M_base b_M_base 3 (some .int) :: wa_all) (rm_d 2) (va_Pc [.ref (hs 0), .int (w)] (gx_I D cl_all (ty_M ca) (gw_M ca hs rt wd ob ln kd qt df mk th cn gv))) (gx_Q D cl_all (gx_A hs 9) (gw_M ca hs rt wd ob ln kd qt df mk th cn gv) (fun v w' => v = some (.int (-1)) ∧ w' = gw_M ca hs rt wd ob ln kd qt df mk 0 cn gv)) 0 0 (gx_A hs 9) := by
  refine gx_mutI (by decide) (Nat.le_of_ble_eq_true rfl) gw_M_in ?_
  intro p e s m args below meth c ls Q hx hb hml ht hown hret hP hK hD hS hl
  have hl : lv_has ls 3 [(0, .ref (hs 0)), (1, .int (w))] := hl
  have hown : s.vm.findClass R_M = some m.cls := hown
  have hP : va_P D cl_all (gw_M ca hs rt wd ob ln kd qt df mk th cn gv) s.heap := hP
  refine lv_aload_n hx hb d_M_base_0 rfl (lv_at hl 0 rfl) ?_
  refine lv_iconst (v := nI 0) hx hb d_M_base_1 (by decide +kernel) ?_
  refine va_put (D := D) (ci := 1) (v := .int (nI 0)) (ty := .int) (C := R_M) (T := F_M) (N := 11) hx hb ht in_M t_M t_M_ok n_M_ne hown hK hP hD hS 0 rfl rfl 0 (by decide) (ht _ wm_346) (fun _ h9 => h9) rfl (by decide +kernel) rfl rfl (Nat.le_of_ble_eq_true rfl) d_M_base_2 (fun H locs hP hD hS => ?_)
  have hP : va_P D cl_all (gw_M ca hs rt wd ob ln kd qt df mk 0 cn gv) H := hP
  have hD : va_D (gx_A hs 9) (gw_M ca hs rt wd ob ln kd qt df mk 0 cn gv) := hD
  refine lv_aload_n hx hb d_M_base_5 rfl (lv_at hl 0 rfl) ?_
  refine lv_iload_n hx hb d_M_base_6 rfl (lv_at hl 1 rfl) ?_
  refine gx_cV (n := 1) (q0 := 0) (ci := 1) (q := (R_M, F_M, 11)) (C := R_M) (own := R_M) (As := [.int (w)]) (rest := []) ⟨hx, hb, hml, hown, ht⟩ hg_all (c_M_objectAt_out l D ca hs (rt) (wd) (ob) (ln) (kd) (qt) (df) (mk) (0) (cn) (gv) w hw) wm_415 wm_416 wm_28 wm_36 wm_417 ⟨rfl, by decide, by decide, by decide +kernel⟩ rfl ⟨rfl, rfl⟩ ⟨by decide, by decide⟩ ⟨by decide, by decide⟩ hK hP hD rfl rfl rfl hl.1 rfl (Nat.le_of_ble_eq_true rfl) d_M_base_7 ?_
  refine lv_istore_n (lv' := [(2, .int (-1)), (0, .ref (hs 0)), (1, .int (w))]) hx hb d_M_base_10 rfl hl (by decide) rfl (fun ls hl => ?_)
  refine lv_iload_n hx hb d_M_base_11 rfl (lv_at hl 0 rfl) ?_
  refine lv_if_ge (tgt := 19) hx hb d_M_base_12 (by decide) (fun h => absurd h (by decide)) (fun _ => ?_)
  refine lv_iconst (v := -1) hx hb d_M_base_15 (by decide +kernel) ?_
  refine lv_goto (tgt := 24) hx hb d_M_base_16 (by decide) ?_
  refine hret 24 ls (-1) _ _ _ d_M_base_24 hP hS ?_ ?_
  · exact gw_M_adr.trans gw_M_adr.symm
  · exact ⟨by rfl, by rfl⟩

set_option maxHeartbeats 4000000 in
set_option maxRecDepth 100000 in
theorem c_M_size_in (l : Launch) (D : va_G) (ca : Nat → ClassId) (hs : Nat → Nat) (rt : Nat → Int32) (wd : Nat → Int32) (ob : Nat → Nat) (ln : Nat → Nat) (kd : Nat → Nat) (qt : Nat → Bool) (df : Nat → Bool) (mk : Nat → Bool) (th : Nat) (cn : Nat) (gv : Nat) (i : Nat) (hi : i < 512) (ho : ∀ i, i < 512 → ob i < 513) : Met l y_M_size (Cond.code y_M_size b_M_size 3 (some .int) :: wa_all) (rm_d 2) (va_Pc [.ref (hs 0), .int (nI (4096 + i))] (gx_I D cl_all (ty_M ca) (gw_M ca hs rt wd ob ln kd qt df mk th cn gv))) (gx_Q D cl_all (gx_A hs 9) (gw_M ca hs rt wd ob ln kd qt df mk th cn gv) (fun v w' => v = some (.int (nI (sn_n ln (ob i)))) ∧ w' = gw_M ca hs rt wd ob ln kd qt df mk 0 cn gv)) 0 0 (gx_A hs 9) := by
  refine gx_mutI (by decide) (Nat.le_of_ble_eq_true rfl) gw_M_in ?_
  intro p e s m args below meth c ls Q hx hb hml ht hown hret hP hK hD hS hl
  have hl : lv_has ls 3 [(0, .ref (hs 0)), (1, .int (nI (4096 + i)))] := hl
  have hown : s.vm.findClass R_M = some m.cls := hown
  have hP : va_P D cl_all (gw_M ca hs rt wd ob ln kd qt df mk th cn gv) s.heap := hP
  refine lv_aload_n hx hb d_M_size_0 rfl (lv_at hl 0 rfl) ?_
  refine lv_iconst (v := nI 0) hx hb d_M_size_1 (by decide +kernel) ?_
  refine va_put (D := D) (ci := 1) (v := .int (nI 0)) (ty := .int) (C := R_M) (T := F_M) (N := 11) hx hb ht in_M t_M t_M_ok n_M_ne hown hK hP hD hS 0 rfl rfl 0 (by decide) (ht _ wm_346) (fun _ h9 => h9) rfl (by decide +kernel) rfl rfl (Nat.le_of_ble_eq_true rfl) d_M_size_2 (fun H locs hP hD hS => ?_)
  have hP : va_P D cl_all (gw_M ca hs rt wd ob ln kd qt df mk 0 cn gv) H := hP
  have hD : va_D (gx_A hs 9) (gw_M ca hs rt wd ob ln kd qt df mk 0 cn gv) := hD
  refine lv_aload_n hx hb d_M_size_5 rfl (lv_at hl 0 rfl) ?_
  refine lv_iload_n hx hb d_M_size_6 rfl (lv_at hl 1 rfl) ?_
  refine gx_cV (n := 1) (q0 := 0) (ci := 1) (q := (R_M, F_M, 11)) (C := R_M) (own := R_M) (As := [.int (nI (4096 + i))]) (rest := []) ⟨hx, hb, hml, hown, ht⟩ hg_all (c_M_objectAt_in l D ca hs (rt) (wd) (ob) (ln) (kd) (qt) (df) (mk) (0) (cn) (gv) i hi) wm_415 wm_416 wm_28 wm_36 wm_417 ⟨rfl, by decide, by decide, by decide +kernel⟩ rfl ⟨rfl, rfl⟩ ⟨by decide, by decide⟩ ⟨by decide, by decide⟩ hK hP hD rfl rfl rfl hl.1 rfl (Nat.le_of_ble_eq_true rfl) d_M_size_7 ?_
  rcases zs_ca (ob i) with ⟨hc, e9⟩ | ⟨p, hc, e9⟩
  · skip
    refine nx_top e9 ?_
    refine lv_istore_n (lv' := [(2, .int (-1)), (0, .ref (hs 0)), (1, .int (nI (4096 + i)))]) hx hb d_M_size_10 rfl hl (by decide) rfl (fun ls hl => ?_)
    refine lv_iload_n hx hb d_M_size_11 rfl (lv_at hl 0 rfl) ?_
    refine lv_if_ge (tgt := 19) hx hb d_M_size_12 (by decide) (fun h => absurd h (by decide)) (fun _ => ?_)
    refine lv_iconst (v := nI 0) hx hb d_M_size_15 (by decide +kernel) ?_
    refine lv_goto (tgt := 25) hx hb d_M_size_16 (by decide) ?_
    refine hret 25 ls (nI 0) _ _ _ d_M_size_25 hP hS ?_ ?_
    · exact gw_M_adr.trans gw_M_adr.symm
    · exact ⟨by rw [hc]; rfl, by rfl⟩
  · skip
    have hp := ho i hi
    rw [hc] at hp
    refine nx_top e9 ?_
    refine lv_istore_n (lv' := [(2, .int (nI p)), (0, .ref (hs 0)), (1, .int (nI (4096 + i)))]) hx hb d_M_size_10 rfl hl (by decide) rfl (fun ls hl => ?_)
    refine lv_iload_n hx hb d_M_size_11 rfl (lv_at hl 0 rfl) ?_
    refine lv_if_ge (tgt := 19) hx hb d_M_size_12 (by decide) (fun _ => ?_) (fun h => absurd (nI_pos' (by omega)) h)
    refine lv_aload_n hx hb d_M_size_19 rfl (lv_at hl 1 rfl) ?_
    refine va_get (D := D) (ci := 1) (v := .ref (hs 4)) (C := R_M) (T := F_M) (N := 11) hx hb ht in_M hown hK hP 0 rfl rfl 4 (by decide) (ht _ wm_350) (fun _ h9 => h9) rfl d_M_size_20 ?_
    refine lv_iload_n hx hb d_M_size_23 rfl (lv_at hl 0 rfl) ?_
    refine nx_iald hx hb hK hP 4 3 nI ln rfl rfl p (by omega) (by decide) d_M_size_24 ?_
    refine hret 25 ls (nI (ln p)) _ _ _ d_M_size_25 hP hS ?_ ?_
    · exact gw_M_adr.trans gw_M_adr.symm
    · exact ⟨by rw [hc]; unfold sn_n; rw [if_neg (by omega), Nat.add_sub_cancel], by rfl⟩

set_option maxHeartbeats 4000000 in
set_option maxRecDepth 100000 in
theorem c_M_size_out (l : Launch) (D : va_G) (ca : Nat → ClassId) (hs : Nat → Nat) (rt : Nat → Int32) (wd : Nat → Int32) (ob : Nat → Nat) (ln : Nat → Nat) (kd : Nat → Nat) (qt : Nat → Bool) (df : Nat → Bool) (mk : Nat → Bool) (th : Nat) (cn : Nat) (gv : Nat) (w : Int32) (hw : ad_b w = false) : Met l y_M_size (Cond.code y_M_size b_M_size 3 (some .int) :: wa_all) (rm_d 2) (va_Pc [.ref (hs 0), .int (w)] (gx_I D cl_all (ty_M ca) (gw_M ca hs rt wd ob ln kd qt df mk th cn gv))) (gx_Q D cl_all (gx_A hs 9) (gw_M ca hs rt wd ob ln kd qt df mk th cn gv) (fun v w' => v = some (.int (nI 0)) ∧ w' = gw_M ca hs rt wd ob ln kd qt df mk 0 cn gv)) 0 0 (gx_A hs 9) := by
  refine gx_mutI (by decide) (Nat.le_of_ble_eq_true rfl) gw_M_in ?_
  intro p e s m args below meth c ls Q hx hb hml ht hown hret hP hK hD hS hl
  have hl : lv_has ls 3 [(0, .ref (hs 0)), (1, .int (w))] := hl
  have hown : s.vm.findClass R_M = some m.cls := hown
  have hP : va_P D cl_all (gw_M ca hs rt wd ob ln kd qt df mk th cn gv) s.heap := hP
  refine lv_aload_n hx hb d_M_size_0 rfl (lv_at hl 0 rfl) ?_
  refine lv_iconst (v := nI 0) hx hb d_M_size_1 (by decide +kernel) ?_
  refine va_put (D := D) (ci := 1) (v := .int (nI 0)) (ty := .int) (C := R_M) (T := F_M) (N := 11) hx hb ht in_M t_M t_M_ok n_M_ne hown hK hP hD hS 0 rfl rfl 0 (by decide) (ht _ wm_346) (fun _ h9 => h9) rfl (by decide +kernel) rfl rfl (Nat.le_of_ble_eq_true rfl) d_M_size_2 (fun H locs hP hD hS => ?_)
  have hP : va_P D cl_all (gw_M ca hs rt wd ob ln kd qt df mk 0 cn gv) H := hP
  have hD : va_D (gx_A hs 9) (gw_M ca hs rt wd ob ln kd qt df mk 0 cn gv) := hD
  refine lv_aload_n hx hb d_M_size_5 rfl (lv_at hl 0 rfl) ?_
  refine lv_iload_n hx hb d_M_size_6 rfl (lv_at hl 1 rfl) ?_
  refine gx_cV (n := 1) (q0 := 0) (ci := 1) (q := (R_M, F_M, 11)) (C := R_M) (own := R_M) (As := [.int (w)]) (rest := []) ⟨hx, hb, hml, hown, ht⟩ hg_all (c_M_objectAt_out l D ca hs (rt) (wd) (ob) (ln) (kd) (qt) (df) (mk) (0) (cn) (gv) w hw) wm_415 wm_416 wm_28 wm_36 wm_417 ⟨rfl, by decide, by decide, by decide +kernel⟩ rfl ⟨rfl, rfl⟩ ⟨by decide, by decide⟩ ⟨by decide, by decide⟩ hK hP hD rfl rfl rfl hl.1 rfl (Nat.le_of_ble_eq_true rfl) d_M_size_7 ?_
  refine lv_istore_n (lv' := [(2, .int (-1)), (0, .ref (hs 0)), (1, .int (w))]) hx hb d_M_size_10 rfl hl (by decide) rfl (fun ls hl => ?_)
  refine lv_iload_n hx hb d_M_size_11 rfl (lv_at hl 0 rfl) ?_
  refine lv_if_ge (tgt := 19) hx hb d_M_size_12 (by decide) (fun h => absurd h (by decide)) (fun _ => ?_)
  refine lv_iconst (v := nI 0) hx hb d_M_size_15 (by decide +kernel) ?_
  refine lv_goto (tgt := 25) hx hb d_M_size_16 (by decide) ?_
  refine hret 25 ls (nI 0) _ _ _ d_M_size_25 hP hS ?_ ?_
  · exact gw_M_adr.trans gw_M_adr.symm
  · exact ⟨by rfl, by rfl⟩

set_option maxHeartbeats 4000000 in
set_option maxRecDepth 100000 in
theorem c_M_silent_in (l : Launch) (D : va_G) (ca : Nat → ClassId) (hs : Nat → Nat) (rt : Nat → Int32) (wd : Nat → Int32) (ob : Nat → Nat) (ln : Nat → Nat) (kd : Nat → Nat) (qt : Nat → Bool) (df : Nat → Bool) (mk : Nat → Bool) (th : Nat) (cn : Nat) (gv : Nat) (i : Nat) (hi : i < 512) (ho : ∀ i, i < 512 → ob i < 513) : Met l y_M_silent (Cond.code y_M_silent b_M_silent 3 (some .boolean) :: wa_all) (rm_d 2) (va_Pc [.ref (hs 0), .int (nI (4096 + i))] (gx_I D cl_all (ty_M ca) (gw_M ca hs rt wd ob ln kd qt df mk th cn gv))) (gx_Q D cl_all (gx_A hs 9) (gw_M ca hs rt wd ob ln kd qt df mk th cn gv) (fun v w' => v = some (.int (zb_e (sq_b qt (ob i)))) ∧ w' = gw_M ca hs rt wd ob ln kd qt df mk 0 cn gv)) 0 0 (gx_A hs 9) := by
  refine gx_mutZ (by decide) (Nat.le_of_ble_eq_true rfl) gw_M_in ?_
  intro p e s m args below meth c ls Q hx hb hml ht hown hret hP hK hD hS hl
  have hl : lv_has ls 3 [(0, .ref (hs 0)), (1, .int (nI (4096 + i)))] := hl
  have hown : s.vm.findClass R_M = some m.cls := hown
  have hP : va_P D cl_all (gw_M ca hs rt wd ob ln kd qt df mk th cn gv) s.heap := hP
  refine lv_aload_n hx hb d_M_silent_0 rfl (lv_at hl 0 rfl) ?_
  refine lv_iconst (v := nI 0) hx hb d_M_silent_1 (by decide +kernel) ?_
  refine va_put (D := D) (ci := 1) (v := .int (nI 0)) (ty := .int) (C := R_M) (T := F_M) (N := 11) hx hb ht in_M t_M t_M_ok n_M_ne hown hK hP hD hS 0 rfl rfl 0 (by decide) (ht _ wm_346) (fun _ h9 => h9) rfl (by decide +kernel) rfl rfl (Nat.le_of_ble_eq_true rfl) d_M_silent_2 (fun H locs hP hD hS => ?_)
  have hP : va_P D cl_all (gw_M ca hs rt wd ob ln kd qt df mk 0 cn gv) H := hP
  have hD : va_D (gx_A hs 9) (gw_M ca hs rt wd ob ln kd qt df mk 0 cn gv) := hD
  refine lv_aload_n hx hb d_M_silent_5 rfl (lv_at hl 0 rfl) ?_
  refine lv_iload_n hx hb d_M_silent_6 rfl (lv_at hl 1 rfl) ?_
  refine gx_cV (n := 1) (q0 := 0) (ci := 1) (q := (R_M, F_M, 11)) (C := R_M) (own := R_M) (As := [.int (nI (4096 + i))]) (rest := []) ⟨hx, hb, hml, hown, ht⟩ hg_all (c_M_objectAt_in l D ca hs (rt) (wd) (ob) (ln) (kd) (qt) (df) (mk) (0) (cn) (gv) i hi) wm_415 wm_416 wm_28 wm_36 wm_417 ⟨rfl, by decide, by decide, by decide +kernel⟩ rfl ⟨rfl, rfl⟩ ⟨by decide, by decide⟩ ⟨by decide, by decide⟩ hK hP hD rfl rfl rfl hl.1 rfl (Nat.le_of_ble_eq_true rfl) d_M_silent_7 ?_
  rcases zs_ca (ob i) with ⟨hc, e9⟩ | ⟨p, hc, e9⟩
  · skip
    refine nx_top e9 ?_
    refine lv_istore_n (lv' := [(2, .int (-1)), (0, .ref (hs 0)), (1, .int (nI (4096 + i)))]) hx hb d_M_silent_10 rfl hl (by decide) rfl (fun ls hl => ?_)
    refine lv_iload_n hx hb d_M_silent_11 rfl (lv_at hl 0 rfl) ?_
    refine lv_if_lt (tgt := 28) hx hb d_M_silent_12 (by decide) (fun _ => ?_) (fun h => absurd (by decide) h)
    refine lv_iconst (v := zb_e false) hx hb d_M_silent_28 (by decide +kernel) ?_
    refine hret 29 ls (false) _ _ _ d_M_silent_29 hP hS ?_ ?_
    · exact gw_M_adr.trans gw_M_adr.symm
    · exact ⟨by rw [hc]; rfl, by rfl⟩
  · skip
    have hp := ho i hi
    rw [hc] at hp
    refine nx_top e9 ?_
    refine lv_istore_n (lv' := [(2, .int (nI p)), (0, .ref (hs 0)), (1, .int (nI (4096 + i)))]) hx hb d_M_silent_10 rfl hl (by decide) rfl (fun ls hl => ?_)
    refine lv_iload_n hx hb d_M_silent_11 rfl (lv_at hl 0 rfl) ?_
    refine lv_if_lt (tgt := 28) hx hb d_M_silent_12 (by decide) (fun h => absurd h (nI_pos (by omega))) (fun _ => ?_)
    refine lv_aload_n hx hb d_M_silent_15 rfl (lv_at hl 1 rfl) ?_
    refine va_get (D := D) (ci := 1) (v := .ref (hs 5)) (C := R_M) (T := F_M) (N := 11) hx hb ht in_M hown hK hP 0 rfl rfl 5 (by decide) (ht _ wm_351) (fun _ h9 => h9) rfl d_M_silent_16 ?_
    refine lv_iload_n hx hb d_M_silent_19 rfl (lv_at hl 0 rfl) ?_
    refine nx_zald hx hb hK hP 5 4 zb_e qt rfl rfl p (by omega) (by decide) d_M_silent_20 ?_
    refine nx_if_eq_b (tgt := 28) hx hb d_M_silent_21 (by decide) (fun h21 => ?_) (fun h21 => ?_)
    · skip
      refine lv_iconst (v := zb_e false) hx hb d_M_silent_28 (by decide +kernel) ?_
      refine hret 29 ls (false) _ _ _ d_M_silent_29 hP hS ?_ ?_
      · exact gw_M_adr.trans gw_M_adr.symm
      · exact ⟨by rw [hc]; unfold sq_b; rw [if_neg (by omega), Nat.add_sub_cancel, h21], by rfl⟩
    · skip
      refine lv_iconst (v := zb_e true) hx hb d_M_silent_24 (by decide +kernel) ?_
      refine lv_goto (tgt := 29) hx hb d_M_silent_25 (by decide) ?_
      refine hret 29 ls (true) _ _ _ d_M_silent_29 hP hS ?_ ?_
      · exact gw_M_adr.trans gw_M_adr.symm
      · exact ⟨by rw [hc]; unfold sq_b; rw [if_neg (by omega), Nat.add_sub_cancel, h21], by rfl⟩

set_option maxHeartbeats 4000000 in
set_option maxRecDepth 100000 in
theorem c_M_silent_out (l : Launch) (D : va_G) (ca : Nat → ClassId) (hs : Nat → Nat) (rt : Nat → Int32) (wd : Nat → Int32) (ob : Nat → Nat) (ln : Nat → Nat) (kd : Nat → Nat) (qt : Nat → Bool) (df : Nat → Bool) (mk : Nat → Bool) (th : Nat) (cn : Nat) (gv : Nat) (w : Int32) (hw : ad_b w = false) : Met l y_M_silent (Cond.code y_M_silent b_M_silent 3 (some .boolean) :: wa_all) (rm_d 2) (va_Pc [.ref (hs 0), .int (w)] (gx_I D cl_all (ty_M ca) (gw_M ca hs rt wd ob ln kd qt df mk th cn gv))) (gx_Q D cl_all (gx_A hs 9) (gw_M ca hs rt wd ob ln kd qt df mk th cn gv) (fun v w' => v = some (.int (zb_e false)) ∧ w' = gw_M ca hs rt wd ob ln kd qt df mk 0 cn gv)) 0 0 (gx_A hs 9) := by
  refine gx_mutZ (by decide) (Nat.le_of_ble_eq_true rfl) gw_M_in ?_
  intro p e s m args below meth c ls Q hx hb hml ht hown hret hP hK hD hS hl
  have hl : lv_has ls 3 [(0, .ref (hs 0)), (1, .int (w))] := hl
  have hown : s.vm.findClass R_M = some m.cls := hown
  have hP : va_P D cl_all (gw_M ca hs rt wd ob ln kd qt df mk th cn gv) s.heap := hP
  refine lv_aload_n hx hb d_M_silent_0 rfl (lv_at hl 0 rfl) ?_
  refine lv_iconst (v := nI 0) hx hb d_M_silent_1 (by decide +kernel) ?_
  refine va_put (D := D) (ci := 1) (v := .int (nI 0)) (ty := .int) (C := R_M) (T := F_M) (N := 11) hx hb ht in_M t_M t_M_ok n_M_ne hown hK hP hD hS 0 rfl rfl 0 (by decide) (ht _ wm_346) (fun _ h9 => h9) rfl (by decide +kernel) rfl rfl (Nat.le_of_ble_eq_true rfl) d_M_silent_2 (fun H locs hP hD hS => ?_)
  have hP : va_P D cl_all (gw_M ca hs rt wd ob ln kd qt df mk 0 cn gv) H := hP
  have hD : va_D (gx_A hs 9) (gw_M ca hs rt wd ob ln kd qt df mk 0 cn gv) := hD
  refine lv_aload_n hx hb d_M_silent_5 rfl (lv_at hl 0 rfl) ?_
  refine lv_iload_n hx hb d_M_silent_6 rfl (lv_at hl 1 rfl) ?_
  refine gx_cV (n := 1) (q0 := 0) (ci := 1) (q := (R_M, F_M, 11)) (C := R_M) (own := R_M) (As := [.int (w)]) (rest := []) ⟨hx, hb, hml, hown, ht⟩ hg_all (c_M_objectAt_out l D ca hs (rt) (wd) (ob) (ln) (kd) (qt) (df) (mk) (0) (cn) (gv) w hw) wm_415 wm_416 wm_28 wm_36 wm_417 ⟨rfl, by decide, by decide, by decide +kernel⟩ rfl ⟨rfl, rfl⟩ ⟨by decide, by decide⟩ ⟨by decide, by decide⟩ hK hP hD rfl rfl rfl hl.1 rfl (Nat.le_of_ble_eq_true rfl) d_M_silent_7 ?_
  refine lv_istore_n (lv' := [(2, .int (-1)), (0, .ref (hs 0)), (1, .int (w))]) hx hb d_M_silent_10 rfl hl (by decide) rfl (fun ls hl => ?_)
  refine lv_iload_n hx hb d_M_silent_11 rfl (lv_at hl 0 rfl) ?_
  refine lv_if_lt (tgt := 28) hx hb d_M_silent_12 (by decide) (fun _ => ?_) (fun h => absurd (by decide) h)
  refine lv_iconst (v := zb_e false) hx hb d_M_silent_28 (by decide +kernel) ?_
  refine hret 29 ls (false) _ _ _ d_M_silent_29 hP hS ?_ ?_
  · exact gw_M_adr.trans gw_M_adr.symm
  · exact ⟨by rfl, by rfl⟩

set_option maxHeartbeats 4000000 in
set_option maxRecDepth 100000 in
theorem c_M_block_in (l : Launch) (D : va_G) (ca : Nat → ClassId) (hs : Nat → Nat) (rt : Nat → Int32) (wd : Nat → Int32) (ob : Nat → Nat) (ln : Nat → Nat) (kd : Nat → Nat) (qt : Nat → Bool) (df : Nat → Bool) (mk : Nat → Bool) (th : Nat) (cn : Nat) (gv : Nat) (b : Nat) (hb16 : b < 16) : Met l y_M_block (Cond.code y_M_block b_M_block 2 (some .int) :: wa_all) (rm_d 0) (va_Pc [.ref (hs 0), .int (nI b)] (gx_I D cl_all (ty_M ca) (gw_M ca hs rt wd ob ln kd qt df mk th cn gv))) (gx_Q D cl_all (gx_A hs 9) (gw_M ca hs rt wd ob ln kd qt df mk th cn gv) (fun v w' => v = some (.int (nI (bl_n kd df b))) ∧ w' = gw_M ca hs rt wd ob ln kd qt df mk 0 cn gv)) 0 0 (gx_A hs 9) := by
  refine gx_mutI (by decide) (Nat.le_of_ble_eq_true rfl) gw_M_in ?_
  intro p e s m args below meth c ls Q hx hb hml ht hown hret hP hK hD hS hl
  have hl : lv_has ls 2 [(0, .ref (hs 0)), (1, .int (nI b))] := hl
  have hown : s.vm.findClass R_M = some m.cls := hown
  have hP : va_P D cl_all (gw_M ca hs rt wd ob ln kd qt df mk th cn gv) s.heap := hP
  refine lv_aload_n hx hb d_M_block_0 rfl (lv_at hl 0 rfl) ?_
  refine lv_iconst (v := nI 0) hx hb d_M_block_1 (by decide +kernel) ?_
  refine va_put (D := D) (ci := 1) (v := .int (nI 0)) (ty := .int) (C := R_M) (T := F_M) (N := 11) hx hb ht in_M t_M t_M_ok n_M_ne hown hK hP hD hS 0 rfl rfl 0 (by decide) (ht _ wm_346) (fun _ h9 => h9) rfl (by decide +kernel) rfl rfl (Nat.le_of_ble_eq_true rfl) d_M_block_2 (fun H locs hP hD hS => ?_)
  have hP : va_P D cl_all (gw_M ca hs rt wd ob ln kd qt df mk 0 cn gv) H := hP
  have hD : va_D (gx_A hs 9) (gw_M ca hs rt wd ob ln kd qt df mk 0 cn gv) := hD
  refine lv_iload_n hx hb d_M_block_5 rfl (lv_at hl 1 rfl) ?_
  refine lv_if_lt (tgt := 15) hx hb d_M_block_6 (by decide) (fun h => absurd h (nI_pos (by omega))) (fun _ => ?_)
  refine lv_iload_n hx hb d_M_block_9 rfl (lv_at hl 1 rfl) ?_
  refine lv_bipush (v := nI 15) hx hb d_M_block_10 (by decide +kernel) ?_
  refine nx_icmp_le (tgt := 19) hx hb d_M_block_12 (by decide) (by omega) (by omega) (fun h12 => ?_) (fun h12 => ?_)
  · skip
    refine lv_aload_n hx hb d_M_block_19 rfl (lv_at hl 0 rfl) ?_
    refine va_get (D := D) (ci := 1) (v := .ref (hs 8)) (C := R_M) (T := F_M) (N := 11) hx hb ht in_M hown hK hP 0 rfl rfl 8 (by decide) (ht _ wm_354) (fun _ h9 => h9) rfl d_M_block_20 ?_
    refine lv_iload_n hx hb d_M_block_23 rfl (lv_at hl 1 rfl) ?_
    refine nx_zald hx hb hK hP 8 7 zb_e df rfl rfl b (by omega) (by decide) d_M_block_24 ?_
    refine nx_if_eq_b (tgt := 40) hx hb d_M_block_25 (by decide) (fun h25 => ?_) (fun h25 => ?_)
    · skip
      refine lv_aload_n hx hb d_M_block_40 rfl (lv_at hl 0 rfl) ?_
      refine va_get (D := D) (ci := 1) (v := .ref (hs 7)) (C := R_M) (T := F_M) (N := 11) hx hb ht in_M hown hK hP 0 rfl rfl 7 (by decide) (ht _ wm_353) (fun _ h9 => h9) rfl d_M_block_41 ?_
      refine lv_iload_n hx hb d_M_block_44 rfl (lv_at hl 1 rfl) ?_
      refine nx_iald hx hb hK hP 7 6 nI kd rfl rfl b (by omega) (by decide) d_M_block_45 ?_
      refine hret 46 ls (nI (kd b)) _ _ _ d_M_block_46 hP hS ?_ ?_
      · exact gw_M_adr.trans gw_M_adr.symm
      · exact ⟨by unfold bl_n; rw [if_neg (by rw [h25]; decide)], by rfl⟩
    · skip
      refine lv_aload_n hx hb d_M_block_28 rfl (lv_at hl 0 rfl) ?_
      refine va_get (D := D) (ci := 1) (v := .ref (hs 7)) (C := R_M) (T := F_M) (N := 11) hx hb ht in_M hown hK hP 0 rfl rfl 7 (by decide) (ht _ wm_353) (fun _ h9 => h9) rfl d_M_block_29 ?_
      refine lv_iload_n hx hb d_M_block_32 rfl (lv_at hl 1 rfl) ?_
      refine nx_iald hx hb hK hP 7 6 nI kd rfl rfl b (by omega) (by decide) d_M_block_33 ?_
      refine lv_bipush (v := nI 64) hx hb d_M_block_34 (by decide +kernel) ?_
      refine nx_iadd hx hb d_M_block_36 ?_
      refine lv_goto (tgt := 46) hx hb d_M_block_37 (by decide) ?_
      refine hret 46 ls (nI ((kd b) + 64)) _ _ _ d_M_block_46 hP hS ?_ ?_
      · exact gw_M_adr.trans gw_M_adr.symm
      · exact ⟨by unfold bl_n; rw [if_pos h25], by rfl⟩
  · skip
    omega

set_option maxHeartbeats 4000000 in
set_option maxRecDepth 100000 in
theorem c_M_block_out (l : Launch) (D : va_G) (ca : Nat → ClassId) (hs : Nat → Nat) (rt : Nat → Int32) (wd : Nat → Int32) (ob : Nat → Nat) (ln : Nat → Nat) (kd : Nat → Nat) (qt : Nat → Bool) (df : Nat → Bool) (mk : Nat → Bool) (th : Nat) (cn : Nat) (gv : Nat) (w : Int32) (hw : bk_b w = false) : Met l y_M_block (Cond.code y_M_block b_M_block 2 (some .int) :: wa_all) (rm_d 0) (va_Pc [.ref (hs 0), .int (w)] (gx_I D cl_all (ty_M ca) (gw_M ca hs rt wd ob ln kd qt df mk th cn gv))) (gx_Q D cl_all (gx_A hs 9) (gw_M ca hs rt wd ob ln kd qt df mk th cn gv) (fun v w' => v = some (.int (-1)) ∧ w' = gw_M ca hs rt wd ob ln kd qt df mk 0 cn gv)) 0 0 (gx_A hs 9) := by
  refine gx_mutI (by decide) (Nat.le_of_ble_eq_true rfl) gw_M_in ?_
  intro p e s m args below meth c ls Q hx hb hml ht hown hret hP hK hD hS hl
  have hl : lv_has ls 2 [(0, .ref (hs 0)), (1, .int (w))] := hl
  have hown : s.vm.findClass R_M = some m.cls := hown
  have hP : va_P D cl_all (gw_M ca hs rt wd ob ln kd qt df mk th cn gv) s.heap := hP
  refine lv_aload_n hx hb d_M_block_0 rfl (lv_at hl 0 rfl) ?_
  refine lv_iconst (v := nI 0) hx hb d_M_block_1 (by decide +kernel) ?_
  refine va_put (D := D) (ci := 1) (v := .int (nI 0)) (ty := .int) (C := R_M) (T := F_M) (N := 11) hx hb ht in_M t_M t_M_ok n_M_ne hown hK hP hD hS 0 rfl rfl 0 (by decide) (ht _ wm_346) (fun _ h9 => h9) rfl (by decide +kernel) rfl rfl (Nat.le_of_ble_eq_true rfl) d_M_block_2 (fun H locs hP hD hS => ?_)
  have hP : va_P D cl_all (gw_M ca hs rt wd ob ln kd qt df mk 0 cn gv) H := hP
  have hD : va_D (gx_A hs 9) (gw_M ca hs rt wd ob ln kd qt df mk 0 cn gv) := hD
  refine lv_iload_n hx hb d_M_block_5 rfl (lv_at hl 1 rfl) ?_
  refine lv_if_lt (tgt := 15) hx hb d_M_block_6 (by decide) (fun h6 => ?_) (fun h6 => ?_)
  · skip
    refine lv_iconst (v := -1) hx hb d_M_block_15 (by decide +kernel) ?_
    refine lv_goto (tgt := 46) hx hb d_M_block_16 (by decide) ?_
    refine hret 46 ls (-1) _ _ _ d_M_block_46 hP hS ?_ ?_
    · exact gw_M_adr.trans gw_M_adr.symm
    · exact ⟨by rfl, by rfl⟩
  · skip
    refine lv_iload_n hx hb d_M_block_9 rfl (lv_at hl 1 rfl) ?_
    refine lv_bipush (v := nI 15) hx hb d_M_block_10 (by decide +kernel) ?_
    refine lv_icmp_le (tgt := 19) hx hb d_M_block_12 (by decide) (fun h12 => ?_) (fun h12 => ?_)
    · skip
      rw [bk_t2 h6 h12] at hw
      cases hw
    · skip
      refine lv_iconst (v := -1) hx hb d_M_block_15 (by decide +kernel) ?_
      refine lv_goto (tgt := 46) hx hb d_M_block_16 (by decide) ?_
      refine hret 46 ls (-1) _ _ _ d_M_block_46 hP hS ?_ ?_
      · exact gw_M_adr.trans gw_M_adr.symm
      · exact ⟨by rfl, by rfl⟩

set_option maxHeartbeats 4000000 in
set_option maxRecDepth 100000 in
theorem c_M_empty_in (l : Launch) (D : va_G) (ca : Nat → ClassId) (hs : Nat → Nat) (rt : Nat → Int32) (wd : Nat → Int32) (ob : Nat → Nat) (ln : Nat → Nat) (kd : Nat → Nat) (qt : Nat → Bool) (df : Nat → Bool) (mk : Nat → Bool) (th : Nat) (cn : Nat) (gv : Nat) (b : Nat) (hb16 : b < 16) (hv : iv_a ob ln kd wd (iv_c ob)) : Met l y_M_empty (Cond.code y_M_empty b_M_empty 4 (some .int) :: wa_all) (rm_d 0) (va_Pc [.ref (hs 0), .int (nI b)] (gx_I D cl_all (ty_M ca) (gw_M ca hs rt wd ob ln kd qt df mk th cn gv))) (gx_Q D cl_all (gx_A hs 9) (gw_M ca hs rt wd ob ln kd qt df mk th cn gv) (fun v w' => v = some (.int (nI (em_n ob kd b))) ∧ w' = gw_M ca hs rt wd ob ln kd qt df mk 0 cn gv)) 0 0 (gx_A hs 9) := by
  refine gx_mutI (by decide) (Nat.le_of_ble_eq_true rfl) gw_M_in ?_
  intro p e s m args below meth c ls Q hx hb hml ht hown hret hP hK hD hS hl
  have hl : lv_has ls 4 [(0, .ref (hs 0)), (1, .int (nI b))] := hl
  have hown : s.vm.findClass R_M = some m.cls := hown
  have hk : ∀ b, b < 16 → kd b < 34 := fun b hb => iv_kl hv.2.1 hb
  have hov := hv.1
  have ho : ∀ i, i < 512 → ob i < 513 := fun i hi => iv_lt hv.1 hi
  have hkb := hk b hb16
  have hP : va_P D cl_all (gw_M ca hs rt wd ob ln kd qt df mk th cn gv) s.heap := hP
  refine lv_aload_n hx hb d_M_empty_0 rfl (lv_at hl 0 rfl) ?_
  refine lv_iconst (v := nI 0) hx hb d_M_empty_1 (by decide +kernel) ?_
  refine va_put (D := D) (ci := 1) (v := .int (nI 0)) (ty := .int) (C := R_M) (T := F_M) (N := 11) hx hb ht in_M t_M t_M_ok n_M_ne hown hK hP hD hS 0 rfl rfl 0 (by decide) (ht _ wm_346) (fun _ h9 => h9) rfl (by decide +kernel) rfl rfl (Nat.le_of_ble_eq_true rfl) d_M_empty_2 (fun H locs hP hD hS => ?_)
  have hP : va_P D cl_all (gw_M ca hs rt wd ob ln kd qt df mk 0 cn gv) H := hP
  have hD : va_D (gx_A hs 9) (gw_M ca hs rt wd ob ln kd qt df mk 0 cn gv) := hD
  refine lv_iload_n hx hb d_M_empty_5 rfl (lv_at hl 1 rfl) ?_
  refine lv_if_lt (tgt := 35) hx hb d_M_empty_6 (by decide) (fun h => absurd h (nI_pos (by omega))) (fun _ => ?_)
  refine lv_iload_n hx hb d_M_empty_9 rfl (lv_at hl 1 rfl) ?_
  refine lv_bipush (v := nI 15) hx hb d_M_empty_10 (by decide +kernel) ?_
  refine nx_icmp_gt (tgt := 35) hx hb d_M_empty_12 (by decide) (by omega) (by omega) (fun h12 => ?_) (fun h12 => ?_)
  · skip
    omega
  · skip
    refine lv_aload_n hx hb d_M_empty_15 rfl (lv_at hl 0 rfl) ?_
    refine va_get (D := D) (ci := 1) (v := .ref (hs 7)) (C := R_M) (T := F_M) (N := 11) hx hb ht in_M hown hK hP 0 rfl rfl 7 (by decide) (ht _ wm_353) (fun _ h9 => h9) rfl d_M_empty_16 ?_
    refine lv_iload_n hx hb d_M_empty_19 rfl (lv_at hl 1 rfl) ?_
    refine nx_iald hx hb hK hP 7 6 nI kd rfl rfl b (by omega) (by decide) d_M_empty_20 ?_
    refine nx_if_eq (tgt := 35) hx hb d_M_empty_21 (by decide) (by omega) (fun h21 => ?_) (fun h21 => ?_)
    · skip
      refine lv_iconst (v := nI 0) hx hb d_M_empty_35 (by decide +kernel) ?_
      refine hret 36 ls (nI 0) _ _ _ d_M_empty_36 hP hS ?_ ?_
      · exact gw_M_adr.trans gw_M_adr.symm
      · exact ⟨by rw [em_0 (Or.inl h21)], by rfl⟩
    · skip
      refine lv_aload_n hx hb d_M_empty_24 rfl (lv_at hl 0 rfl) ?_
      refine va_get (D := D) (ci := 1) (v := .ref (hs 7)) (C := R_M) (T := F_M) (N := 11) hx hb ht in_M hown hK hP 0 rfl rfl 7 (by decide) (ht _ wm_353) (fun _ h9 => h9) rfl d_M_empty_25 ?_
      refine lv_iload_n hx hb d_M_empty_28 rfl (lv_at hl 1 rfl) ?_
      refine nx_iald hx hb hK hP 7 6 nI kd rfl rfl b (by omega) (by decide) d_M_empty_29 ?_
      refine lv_bipush (v := nI 32) hx hb d_M_empty_30 (by decide +kernel) ?_
      refine nx_icmp_lt (tgt := 37) hx hb d_M_empty_32 (by decide) (by omega) (by omega) (fun h32 => ?_) (fun h32 => ?_)
      · skip
        have hz4 : kd b = 2 ∨ kd b = 4 ∨ kd b = 8 ∨ kd b = 16 := by have := hv.2.1 b hb16; omega
        refine lv_iconst (v := nI 0) hx hb d_M_empty_37 (by decide +kernel) ?_
        refine lv_istore_n (lv' := [(2, .int (nI 0)), (0, .ref (hs 0)), (1, .int (nI b))]) hx hb d_M_empty_38 rfl hl (by decide) rfl (fun ls hl => ?_)
        refine lv_bipush (v := nI 32) hx hb d_M_empty_39 (by decide +kernel) ?_
        refine lv_iload_n hx hb d_M_empty_41 rfl (lv_at hl 2 rfl) ?_
        refine nx_imul hx hb d_M_empty_42 ?_
        refine lv_istore_n (lv' := [(3, .int (nI (32 * b))), (2, .int (nI 0)), (0, .ref (hs 0)), (1, .int (nI b))]) hx hb d_M_empty_43 rfl hl (by decide) rfl (fun ls hl => ?_)
        have key44 : ∀ (n9 : Nat) (t : Nat) (y : Nat) (ct : Nat) (H : Heap) (locs : List Loc) (ls : Array Slot), 32 - y = n9 → y = t * kd b → t ≤ 32 / kd b → ct = cn_t (fun t => cl_b (ob (32 * b + t * kd b) = 0)) t → lv_has ls 4 [(0, .ref (hs 0)), (1, .int (nI b)), (2, .int (nI ct)), (3, .int (nI (32 * b + y)))] → va_P D cl_all (gw_M ca hs rt wd ob ln kd qt df mk 0 cn gv) H → va_D (gx_A hs 9) (gw_M ca hs rt wd ob ln kd qt df mk 0 cn gv) → va_S (gx_A hs 9) s.heap H locs → W p l e (rm_d 0) s m args below meth c H locs 0 0 Q (F0 m 44 ls []) := by
          intro n9
          induction n9 using Nat.strongRecOn with
          | ind n9 ih44 =>
            intro t y ct H locs ls hn44 hy ht4 hct hl hP hD hS
            have hy33 : y ≤ 32 := by rcases hz4 with e | e | e | e <;> rw [e] at hy ht4 <;> omega
            refine lv_iload_n hx hb d_M_empty_44 rfl (lv_at hl 3 rfl) ?_
            refine lv_bipush (v := nI 32) hx hb d_M_empty_45 (by decide +kernel) ?_
            refine lv_iload_n hx hb d_M_empty_47 rfl (lv_at hl 1 rfl) ?_
            refine nx_imul hx hb d_M_empty_48 ?_
            refine lv_bipush (v := nI 32) hx hb d_M_empty_49 (by decide +kernel) ?_
            refine nx_iadd hx hb d_M_empty_51 ?_
            refine nx_icmp_ge (tgt := 84) hx hb d_M_empty_52 (by decide) (by omega) (by omega) (fun h52 => ?_) (fun h52 => ?_)
            · skip
              refine lv_iload_n hx hb d_M_empty_84 rfl (lv_at hl 2 rfl) ?_
              refine hret 85 ls (nI ct) _ _ _ d_M_empty_85 hP hS ?_ ?_
              · exact gw_M_adr.trans gw_M_adr.symm
              · exact ⟨by rw [em_eq hv.1 hv.2.1 hb16 h21 h32, hct, show t = 32 / kd b by rcases hz4 with e | e | e | e <;> rw [e] at hy ht4 ⊢ <;> omega]; rfl, by rfl⟩
            · skip
              refine lv_aload_n hx hb d_M_empty_55 rfl (lv_at hl 0 rfl) ?_
              refine va_get (D := D) (ci := 1) (v := .ref (hs 3)) (C := R_M) (T := F_M) (N := 11) hx hb ht in_M hown hK hP 0 rfl rfl 3 (by decide) (ht _ wm_349) (fun _ h9 => h9) rfl d_M_empty_56 ?_
              refine lv_iload_n hx hb d_M_empty_59 rfl (lv_at hl 3 rfl) ?_
              refine nx_iald hx hb hK hP 3 2 nI ob rfl rfl (32 * b + y) (by omega) (by decide) d_M_empty_60 ?_
              refine nx_if_ne (tgt := 70) hx hb d_M_empty_61 (by decide) (by have := ho (32 * b + y) (by omega); omega) (fun h61 => ?_) (fun h61 => ?_)
              · skip
                refine lv_iload_n hx hb d_M_empty_70 rfl (lv_at hl 2 rfl) ?_
                refine lv_istore_n (lv' := [(2, .int (nI ct)), (0, .ref (hs 0)), (1, .int (nI b)), (3, .int (nI (32 * b + y)))]) hx hb d_M_empty_71 rfl hl (by decide) rfl (fun ls hl => ?_)
                refine lv_iload_n hx hb d_M_empty_72 rfl (lv_at hl 3 rfl) ?_
                refine lv_aload_n hx hb d_M_empty_73 rfl (lv_at hl 1 rfl) ?_
                refine va_get (D := D) (ci := 1) (v := .ref (hs 7)) (C := R_M) (T := F_M) (N := 11) hx hb ht in_M hown hK hP 0 rfl rfl 7 (by decide) (ht _ wm_353) (fun _ h9 => h9) rfl d_M_empty_74 ?_
                refine lv_iload_n hx hb d_M_empty_77 rfl (lv_at hl 2 rfl) ?_
                refine nx_iald hx hb hK hP 7 6 nI kd rfl rfl b (by omega) (by decide) d_M_empty_78 ?_
                refine nx_iadd hx hb d_M_empty_79 ?_
                refine nx_top (show nI (32 * b + y + kd b) = nI (32 * b + (y + kd b)) by rw [Nat.add_assoc]) ?_
                refine lv_istore_n (lv' := [(3, .int (nI (32 * b + (y + kd b)))), (2, .int (nI ct)), (0, .ref (hs 0)), (1, .int (nI b))]) hx hb d_M_empty_80 rfl hl (by decide) rfl (fun ls hl => ?_)
                refine lv_goto (tgt := 44) hx hb d_M_empty_81 (by decide) ?_
                exact ih44 _ (by omega) (t + 1) (y + kd b) (ct) _ _ _ rfl (by rw [hy, Nat.succ_mul]) (by rcases hz4 with e | e | e | e <;> rw [e] at hy ⊢ <;> omega) (by simp only [cn_t]; rw [if_neg (fun q => h61 (by have := cl_t.mp q; rw [← hy] at this; exact this)), ← hct]; rfl) (lv_sub hl [2, 3, 1, 0] rfl) hP hD hS
              · skip
                refine lv_iload_n hx hb d_M_empty_64 rfl (lv_at hl 2 rfl) ?_
                refine lv_iconst (v := nI 1) hx hb d_M_empty_65 (by decide +kernel) ?_
                refine nx_iadd hx hb d_M_empty_66 ?_
                refine lv_goto (tgt := 71) hx hb d_M_empty_67 (by decide) ?_
                refine lv_istore_n (lv' := [(2, .int (nI (ct + 1))), (0, .ref (hs 0)), (1, .int (nI b)), (3, .int (nI (32 * b + y)))]) hx hb d_M_empty_71 rfl hl (by decide) rfl (fun ls hl => ?_)
                refine lv_iload_n hx hb d_M_empty_72 rfl (lv_at hl 3 rfl) ?_
                refine lv_aload_n hx hb d_M_empty_73 rfl (lv_at hl 1 rfl) ?_
                refine va_get (D := D) (ci := 1) (v := .ref (hs 7)) (C := R_M) (T := F_M) (N := 11) hx hb ht in_M hown hK hP 0 rfl rfl 7 (by decide) (ht _ wm_353) (fun _ h9 => h9) rfl d_M_empty_74 ?_
                refine lv_iload_n hx hb d_M_empty_77 rfl (lv_at hl 2 rfl) ?_
                refine nx_iald hx hb hK hP 7 6 nI kd rfl rfl b (by omega) (by decide) d_M_empty_78 ?_
                refine nx_iadd hx hb d_M_empty_79 ?_
                refine nx_top (show nI (32 * b + y + kd b) = nI (32 * b + (y + kd b)) by rw [Nat.add_assoc]) ?_
                refine lv_istore_n (lv' := [(3, .int (nI (32 * b + (y + kd b)))), (2, .int (nI (ct + 1))), (0, .ref (hs 0)), (1, .int (nI b))]) hx hb d_M_empty_80 rfl hl (by decide) rfl (fun ls hl => ?_)
                refine lv_goto (tgt := 44) hx hb d_M_empty_81 (by decide) ?_
                exact ih44 _ (by omega) (t + 1) (y + kd b) (ct + 1) _ _ _ rfl (by rw [hy, Nat.succ_mul]) (by rcases hz4 with e | e | e | e <;> rw [e] at hy ⊢ <;> omega) (by simp only [cn_t]; rw [if_pos (cl_t.mpr (show ob (32 * b + t * kd b) = 0 by rw [← hy]; exact h61)), ← hct]) (lv_sub hl [2, 3, 1, 0] rfl) hP hD hS
        exact key44 _ (0) (0) (0) _ _ _ rfl (by rw [Nat.zero_mul]) (Nat.zero_le _) (rfl) (lv_sub hl [2, 3, 1, 0] rfl) hP hD hS
      · skip
        refine lv_iconst (v := nI 0) hx hb d_M_empty_35 (by decide +kernel) ?_
        refine hret 36 ls (nI 0) _ _ _ d_M_empty_36 hP hS ?_ ?_
        · exact gw_M_adr.trans gw_M_adr.symm
        · exact ⟨by rw [em_0 (Or.inr h32)], by rfl⟩

set_option maxHeartbeats 4000000 in
set_option maxRecDepth 100000 in
theorem c_M_empty_out (l : Launch) (D : va_G) (ca : Nat → ClassId) (hs : Nat → Nat) (rt : Nat → Int32) (wd : Nat → Int32) (ob : Nat → Nat) (ln : Nat → Nat) (kd : Nat → Nat) (qt : Nat → Bool) (df : Nat → Bool) (mk : Nat → Bool) (th : Nat) (cn : Nat) (gv : Nat) (w : Int32) (hw : bk_b w = false) : Met l y_M_empty (Cond.code y_M_empty b_M_empty 4 (some .int) :: wa_all) (rm_d 0) (va_Pc [.ref (hs 0), .int (w)] (gx_I D cl_all (ty_M ca) (gw_M ca hs rt wd ob ln kd qt df mk th cn gv))) (gx_Q D cl_all (gx_A hs 9) (gw_M ca hs rt wd ob ln kd qt df mk th cn gv) (fun v w' => v = some (.int (nI 0)) ∧ w' = gw_M ca hs rt wd ob ln kd qt df mk 0 cn gv)) 0 0 (gx_A hs 9) := by
  refine gx_mutI (by decide) (Nat.le_of_ble_eq_true rfl) gw_M_in ?_
  intro p e s m args below meth c ls Q hx hb hml ht hown hret hP hK hD hS hl
  have hl : lv_has ls 4 [(0, .ref (hs 0)), (1, .int (w))] := hl
  have hown : s.vm.findClass R_M = some m.cls := hown
  have hP : va_P D cl_all (gw_M ca hs rt wd ob ln kd qt df mk th cn gv) s.heap := hP
  refine lv_aload_n hx hb d_M_empty_0 rfl (lv_at hl 0 rfl) ?_
  refine lv_iconst (v := nI 0) hx hb d_M_empty_1 (by decide +kernel) ?_
  refine va_put (D := D) (ci := 1) (v := .int (nI 0)) (ty := .int) (C := R_M) (T := F_M) (N := 11) hx hb ht in_M t_M t_M_ok n_M_ne hown hK hP hD hS 0 rfl rfl 0 (by decide) (ht _ wm_346) (fun _ h9 => h9) rfl (by decide +kernel) rfl rfl (Nat.le_of_ble_eq_true rfl) d_M_empty_2 (fun H locs hP hD hS => ?_)
  have hP : va_P D cl_all (gw_M ca hs rt wd ob ln kd qt df mk 0 cn gv) H := hP
  have hD : va_D (gx_A hs 9) (gw_M ca hs rt wd ob ln kd qt df mk 0 cn gv) := hD
  refine lv_iload_n hx hb d_M_empty_5 rfl (lv_at hl 1 rfl) ?_
  refine lv_if_lt (tgt := 35) hx hb d_M_empty_6 (by decide) (fun h6 => ?_) (fun h6 => ?_)
  · skip
    refine lv_iconst (v := nI 0) hx hb d_M_empty_35 (by decide +kernel) ?_
    refine hret 36 ls (nI 0) _ _ _ d_M_empty_36 hP hS ?_ ?_
    · exact gw_M_adr.trans gw_M_adr.symm
    · exact ⟨by rfl, by rfl⟩
  · skip
    refine lv_iload_n hx hb d_M_empty_9 rfl (lv_at hl 1 rfl) ?_
    refine lv_bipush (v := nI 15) hx hb d_M_empty_10 (by decide +kernel) ?_
    refine lv_icmp_gt (tgt := 35) hx hb d_M_empty_12 (by decide) (fun h12 => ?_) (fun h12 => ?_)
    · skip
      refine lv_iconst (v := nI 0) hx hb d_M_empty_35 (by decide +kernel) ?_
      refine hret 36 ls (nI 0) _ _ _ d_M_empty_36 hP hS ?_ ?_
      · exact gw_M_adr.trans gw_M_adr.symm
      · exact ⟨by rfl, by rfl⟩
    · skip
      rw [bk_t3 h6 h12] at hw
      cases hw

set_option maxHeartbeats 4000000 in
set_option maxRecDepth 100000 in
theorem c_M_objects (l : Launch) (D : va_G) (ca : Nat → ClassId) (hs : Nat → Nat) (rt : Nat → Int32) (wd : Nat → Int32) (ob : Nat → Nat) (ln : Nat → Nat) (kd : Nat → Nat) (qt : Nat → Bool) (df : Nat → Bool) (mk : Nat → Bool) (th : Nat) (cn : Nat) (gv : Nat) (ho : ∀ i, i < 512 → ob i < 513) : Met l y_M_objects (Cond.code y_M_objects b_M_objects 3 (some .int) :: wa_all) (rm_d 0) (va_Pc [.ref (hs 0)] (gx_I D cl_all (ty_M ca) (gw_M ca hs rt wd ob ln kd qt df mk th cn gv))) (gx_Q D cl_all (gx_A hs 9) (gw_M ca hs rt wd ob ln kd qt df mk th cn gv) (fun v w' => v = some (.int (nI (iv_c ob))) ∧ w' = gw_M ca hs rt wd ob ln kd qt df mk 0 cn gv)) 0 0 (gx_A hs 9) := by
  refine gx_mutI (by decide) (Nat.le_of_ble_eq_true rfl) gw_M_in ?_
  intro p e s m args below meth c ls Q hx hb hml ht hown hret hP hK hD hS hl
  have hl : lv_has ls 3 [(0, .ref (hs 0))] := hl
  have hown : s.vm.findClass R_M = some m.cls := hown
  have hP : va_P D cl_all (gw_M ca hs rt wd ob ln kd qt df mk th cn gv) s.heap := hP
  refine lv_aload_n hx hb d_M_objects_0 rfl (lv_at hl 0 rfl) ?_
  refine lv_iconst (v := nI 0) hx hb d_M_objects_1 (by decide +kernel) ?_
  refine va_put (D := D) (ci := 1) (v := .int (nI 0)) (ty := .int) (C := R_M) (T := F_M) (N := 11) hx hb ht in_M t_M t_M_ok n_M_ne hown hK hP hD hS 0 rfl rfl 0 (by decide) (ht _ wm_346) (fun _ h9 => h9) rfl (by decide +kernel) rfl rfl (Nat.le_of_ble_eq_true rfl) d_M_objects_2 (fun H locs hP hD hS => ?_)
  have hP : va_P D cl_all (gw_M ca hs rt wd ob ln kd qt df mk 0 cn gv) H := hP
  have hD : va_D (gx_A hs 9) (gw_M ca hs rt wd ob ln kd qt df mk 0 cn gv) := hD
  refine lv_iconst (v := nI 0) hx hb d_M_objects_5 (by decide +kernel) ?_
  refine lv_istore_n (lv' := [(1, .int (nI 0)), (0, .ref (hs 0))]) hx hb d_M_objects_6 rfl hl (by decide) rfl (fun ls hl => ?_)
  refine lv_iconst (v := nI 0) hx hb d_M_objects_7 (by decide +kernel) ?_
  refine lv_istore_n (lv' := [(2, .int (nI 0)), (1, .int (nI 0)), (0, .ref (hs 0))]) hx hb d_M_objects_8 rfl hl (by decide) rfl (fun ls hl => ?_)
  have key9 : ∀ (n9 : Nat) (i : Nat) (ct : Nat) (H : Heap) (locs : List Loc) (ls : Array Slot), 512 - i = n9 → i ≤ 512 → ct = cn_t (fun i => cl_b (ob i = i + 1)) i → lv_has ls 3 [(0, .ref (hs 0)), (1, .int (nI ct)), (2, .int (nI i))] → va_P D cl_all (gw_M ca hs rt wd ob ln kd qt df mk 0 cn gv) H → va_D (gx_A hs 9) (gw_M ca hs rt wd ob ln kd qt df mk 0 cn gv) → va_S (gx_A hs 9) s.heap H locs → W p l e (rm_d 0) s m args below meth c H locs 0 0 Q (F0 m 9 ls []) := by
    intro n9
    induction n9 using Nat.strongRecOn with
    | ind n9 ih9 =>
      intro i ct H locs ls hn9 hi hct hl hP hD hS
      refine lv_iload_n hx hb d_M_objects_9 rfl (lv_at hl 2 rfl) ?_
      refine lv_sipush (v := nI 512) hx hb d_M_objects_10 (by decide +kernel) ?_
      refine nx_icmp_ge (tgt := 42) hx hb d_M_objects_13 (by decide) (by omega) (by omega) (fun h13 => ?_) (fun h13 => ?_)
      · skip
        refine lv_iload_n hx hb d_M_objects_42 rfl (lv_at hl 1 rfl) ?_
        refine hret 43 ls (nI ct) _ _ _ d_M_objects_43 hP hS ?_ ?_
        · exact gw_M_adr.trans gw_M_adr.symm
        · exact ⟨by rw [hct, show i = 512 by omega]; rfl, by rfl⟩
      · skip
        refine lv_aload_n hx hb d_M_objects_16 rfl (lv_at hl 0 rfl) ?_
        refine va_get (D := D) (ci := 1) (v := .ref (hs 3)) (C := R_M) (T := F_M) (N := 11) hx hb ht in_M hown hK hP 0 rfl rfl 3 (by decide) (ht _ wm_349) (fun _ h9 => h9) rfl d_M_objects_17 ?_
        refine lv_iload_n hx hb d_M_objects_20 rfl (lv_at hl 2 rfl) ?_
        refine nx_iald hx hb hK hP 3 2 nI ob rfl rfl i (by omega) (by decide) d_M_objects_21 ?_
        refine lv_iload_n hx hb d_M_objects_22 rfl (lv_at hl 2 rfl) ?_
        refine lv_iconst (v := nI 1) hx hb d_M_objects_23 (by decide +kernel) ?_
        refine nx_iadd hx hb d_M_objects_24 ?_
        refine nx_icmp_ne (tgt := 34) hx hb d_M_objects_25 (by decide) (by have := ho i h13; omega) (by omega) (fun h25 => ?_) (fun h25 => ?_)
        · skip
          refine lv_iload_n hx hb d_M_objects_34 rfl (lv_at hl 1 rfl) ?_
          refine lv_istore_n (lv' := [(1, .int (nI ct)), (0, .ref (hs 0)), (2, .int (nI i))]) hx hb d_M_objects_35 rfl hl (by decide) rfl (fun ls hl => ?_)
          refine lv_iinc (k := 2) (v := nI (i + 1)) (lv' := [(2, .int (nI (i + 1))), (1, .int (nI ct)), (0, .ref (hs 0))]) hx hb d_M_objects_36 hl rfl (nx_inc1 _) (by decide) rfl (fun ls hl => ?_)
          refine lv_goto (tgt := 9) hx hb d_M_objects_39 (by decide) ?_
          exact ih9 _ (by omega) (i + 1) (ct) _ _ _ rfl (by omega) (by simp only [cn_t]; rw [if_neg (fun q => h25 (cl_t.mp q)), ← hct]; rfl) (lv_sub hl [2, 1, 0] rfl) hP hD hS
        · skip
          refine lv_iload_n hx hb d_M_objects_28 rfl (lv_at hl 1 rfl) ?_
          refine lv_iconst (v := nI 1) hx hb d_M_objects_29 (by decide +kernel) ?_
          refine nx_iadd hx hb d_M_objects_30 ?_
          refine lv_goto (tgt := 35) hx hb d_M_objects_31 (by decide) ?_
          refine lv_istore_n (lv' := [(1, .int (nI (ct + 1))), (0, .ref (hs 0)), (2, .int (nI i))]) hx hb d_M_objects_35 rfl hl (by decide) rfl (fun ls hl => ?_)
          refine lv_iinc (k := 2) (v := nI (i + 1)) (lv' := [(2, .int (nI (i + 1))), (1, .int (nI (ct + 1))), (0, .ref (hs 0))]) hx hb d_M_objects_36 hl rfl (nx_inc1 _) (by decide) rfl (fun ls hl => ?_)
          refine lv_goto (tgt := 9) hx hb d_M_objects_39 (by decide) ?_
          exact ih9 _ (by omega) (i + 1) (ct + 1) _ _ _ rfl (by omega) (by simp only [cn_t]; rw [if_pos (cl_t.mpr h25), ← hct]) (lv_sub hl [2, 1, 0] rfl) hP hD hS
  exact key9 _ (0) (0) _ _ _ rfl (Nat.zero_le _) (rfl) (lv_sub hl [2, 1, 0] rfl) hP hD hS

set_option maxHeartbeats 4000000 in
set_option maxRecDepth 100000 in
theorem c_M_collections (l : Launch) (D : va_G) (ca : Nat → ClassId) (hs : Nat → Nat) (rt : Nat → Int32) (wd : Nat → Int32) (ob : Nat → Nat) (ln : Nat → Nat) (kd : Nat → Nat) (qt : Nat → Bool) (df : Nat → Bool) (mk : Nat → Bool) (th : Nat) (cn : Nat) (gv : Nat)  : Met l y_M_collections (Cond.code y_M_collections b_M_collections 1 (some .int) :: wa_all) (rm_d 0) (va_Pc [.ref (hs 0)] (gx_I D cl_all (ty_M ca) (gw_M ca hs rt wd ob ln kd qt df mk th cn gv))) (gx_Q D cl_all (gx_A hs 9) (gw_M ca hs rt wd ob ln kd qt df mk th cn gv) (fun v w' => v = some (.int (nI cn)) ∧ w' = gw_M ca hs rt wd ob ln kd qt df mk 0 cn gv)) 0 0 (gx_A hs 9) := by
  refine gx_mutI (by decide) (Nat.le_of_ble_eq_true rfl) gw_M_in ?_
  intro p e s m args below meth c ls Q hx hb hml ht hown hret hP hK hD hS hl
  have hl : lv_has ls 1 [(0, .ref (hs 0))] := hl
  have hown : s.vm.findClass R_M = some m.cls := hown
  have hP : va_P D cl_all (gw_M ca hs rt wd ob ln kd qt df mk th cn gv) s.heap := hP
  refine lv_aload_n hx hb d_M_collections_0 rfl (lv_at hl 0 rfl) ?_
  refine lv_iconst (v := nI 0) hx hb d_M_collections_1 (by decide +kernel) ?_
  refine va_put (D := D) (ci := 1) (v := .int (nI 0)) (ty := .int) (C := R_M) (T := F_M) (N := 11) hx hb ht in_M t_M t_M_ok n_M_ne hown hK hP hD hS 0 rfl rfl 0 (by decide) (ht _ wm_346) (fun _ h9 => h9) rfl (by decide +kernel) rfl rfl (Nat.le_of_ble_eq_true rfl) d_M_collections_2 (fun H locs hP hD hS => ?_)
  have hP : va_P D cl_all (gw_M ca hs rt wd ob ln kd qt df mk 0 cn gv) H := hP
  have hD : va_D (gx_A hs 9) (gw_M ca hs rt wd ob ln kd qt df mk 0 cn gv) := hD
  refine lv_aload_n hx hb d_M_collections_5 rfl (lv_at hl 0 rfl) ?_
  refine va_get (D := D) (ci := 1) (v := .int (nI cn)) (C := R_M) (T := F_M) (N := 11) hx hb ht in_M hown hK hP 0 rfl rfl 9 (by decide) (ht _ wm_355) (fun _ h9 => h9) rfl d_M_collections_6 ?_
  refine hret 9 ls (nI cn) _ _ _ d_M_collections_9 hP hS ?_ ?_
  · exact gw_M_adr.trans gw_M_adr.symm
  · exact ⟨by rfl, by rfl⟩

