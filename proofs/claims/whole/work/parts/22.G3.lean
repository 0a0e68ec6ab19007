/-! the class: its public reads, small changes -/
def ba_e (n : Nat) : Int32 := if n = 0 then -1 else nI (4096 + (n - 1))
def sn_n (ln : Nat → Nat) (n : Nat) : Nat := if n = 0 then 0 else ln (n - 1)
def sq_b (qt : Nat → Bool) (n : Nat) : Bool := if n = 0 then false else qt (n - 1)
def bl_n (kd : Nat → Nat) (df : Nat → Bool) (b : Nat) : Nat := if df b = true then kd b + 64 else kd b
noncomputable def em_n (ob kd : Nat → Nat) (b : Nat) : Nat := if 2 ≤ kd b ∧ kd b ≤ 16 then fw_n ob b / kd b else 0
theorem s4_e {i : Nat} : nI (4096 + i - 4096) = nI i := by rw [Nat.add_sub_cancel_left]
set_option maxHeartbeats 4000000 in
set_option maxRecDepth 100000 in
theorem c_G_findRoom (l : Launch) (D : va_G) (ca : Nat → ClassId) (hs : Nat → Nat) (rt : Nat → Int32) (wd : Nat → Int32) (ob : Nat → Nat) (ln : Nat → Nat) (kd : Nat → Nat) (qt : Nat → Bool) (df : Nat → Bool) (mk : Nat → Bool) (fd : Nat → Nat) (fc : Nat) (oc : Nat) (cn : Nat) (n : Nat) (hn1 : 1 ≤ n) (hn2 : n ≤ 128) (f : Bool) (hk : ∀ b, b < 16 → kd b < 34) (ho : ∀ i, i < 512 → ob i < 513) : Met l y_G_findRoom (Cond.code y_G_findRoom b_G_findRoom 4 (some .int) :: wa_all) (rm_d 1) (va_Pc [.ref (hs 0), .int (nI n), .int (zb_e f)] (gx_I D cl_all (ty_G ca) (gw_G ca hs rt wd ob ln kd qt df mk fd fc oc cn))) (QcRead (lr_e (rm_n ob kd df n f))) 0 0 (fun _ => False) := by
  refine gx_pureI (by decide) (Nat.le_of_ble_eq_true rfl) ?_
  intro p e s m args below meth c ls Q hx hb hml ht hown hret hP hK hD hl
  have hl : lv_has ls 4 [(0, .ref (hs 0)), (1, .int (nI n)), (2, .int (zb_e f))] := hl
  have hown : s.vm.findClass R_G = some m.cls := hown
  refine lv_iload_n hx hb d_G_findRoom_0 rfl (lv_at hl 1 rfl) ?_
  refine lv_bipush (v := nI 16) hx hb d_G_findRoom_1 (by decide +kernel) ?_
  refine nx_icmp_le (tgt := 16) hx hb d_G_findRoom_3 (by decide) (by omega) (by omega) (fun h3 => ?_) (fun h3 => ?_)
  · skip
    refine lv_aload_n hx hb d_G_findRoom_16 rfl (lv_at hl 0 rfl) ?_
    refine lv_iload_n hx hb d_G_findRoom_17 rfl (lv_at hl 1 rfl) ?_
    refine gx_cS (n := 1) (own := R_G) (As := [.int (nI n)]) (rest := [.ref (hs 0)]) ⟨hx, hb, hml, hown, ht⟩ hg_all (c_G_slotSize l (n) (by omega)) wm_262 wm_263 wm_34 wm_264 ⟨rfl, by decide, by decide, by decide +kernel⟩ rfl ⟨rfl, rfl⟩ ⟨by decide, by decide⟩ ⟨by decide, by decide⟩ hl.1 rfl (Nat.le_of_ble_eq_true rfl) d_G_findRoom_18 ?_
    refine gx_cV (n := 1) (q0 := 0) (ci := 0) (q := (R_G, F_G, 12)) (C := R_G) (own := R_G) (As := [.int (nI (sz_f (n)))]) (rest := []) ⟨hx, hb, hml, hown, ht⟩ hg_all (c_G_findEmptySlot l D ca hs (rt) (wd) (ob) (ln) (kd) (qt) (df) (mk) (fd) (fc) (oc) (cn) (sz_f (n)) (by have := sz_is n; omega) hk ho) wm_265 wm_266 wm_15 wm_34 wm_267 ⟨rfl, by decide, by decide, by decide +kernel⟩ rfl ⟨rfl, rfl⟩ ⟨by decide, by decide⟩ ⟨by decide, by decide⟩ hK hP hD rfl rfl rfl hl.1 rfl (Nat.le_of_ble_eq_true rfl) d_G_findRoom_21 ?_
    by_cases hr : rm_s ob kd (sz_f n) < 512
    · skip
      refine nx_top (show lr_e (rm_s ob kd (sz_f n)) = nI (rm_s ob kd (sz_f n)) from if_pos hr) ?_
      refine lv_istore_n (lv' := [(3, .int (nI (rm_s ob kd (sz_f n)))), (0, .ref (hs 0)), (1, .int (nI n)), (2, .int (zb_e f))]) hx hb d_G_findRoom_24 rfl hl (by decide) rfl (fun ls hl => ?_)
      refine lv_iload_n hx hb d_G_findRoom_25 rfl (lv_at hl 0 rfl) ?_
      refine lv_iconst (v := -1) hx hb d_G_findRoom_26 (by decide +kernel) ?_
      refine lv_icmp_eq (tgt := 34) hx hb d_G_findRoom_27 (by decide) (fun h => absurd h (zn_m1 (by omega))) (fun _ => ?_)
      refine lv_iload_n hx hb d_G_findRoom_30 rfl (lv_at hl 0 rfl) ?_
      refine lv_goto (tgt := 40) hx hb d_G_findRoom_31 (by decide) ?_
      exact hret 40 ls (nI (rm_s ob kd (sz_f n))) d_G_findRoom_40 (by unfold rm_n; rw [if_pos h3, if_pos hr]; exact (if_pos hr).symm)
    · skip
      refine nx_top (show lr_e (rm_s ob kd (sz_f n)) = -1 from if_neg hr) ?_
      refine lv_istore_n (lv' := [(3, .int (-1)), (0, .ref (hs 0)), (1, .int (nI n)), (2, .int (zb_e f))]) hx hb d_G_findRoom_24 rfl hl (by decide) rfl (fun ls hl => ?_)
      refine lv_iload_n hx hb d_G_findRoom_25 rfl (lv_at hl 0 rfl) ?_
      refine lv_iconst (v := -1) hx hb d_G_findRoom_26 (by decide +kernel) ?_
      refine lv_icmp_eq (tgt := 34) hx hb d_G_findRoom_27 (by decide) (fun _ => ?_) (fun h => absurd rfl h)
      refine lv_aload_n hx hb d_G_findRoom_34 rfl (lv_at hl 1 rfl) ?_
      refine lv_iconst (v := nI 1) hx hb d_G_findRoom_35 (by decide +kernel) ?_
      refine lv_iload_n hx hb d_G_findRoom_36 rfl (lv_at hl 3 rfl) ?_
      refine gx_cV (n := 2) (q0 := 0) (ci := 0) (q := (R_G, F_G, 12)) (C := R_G) (own := R_G) (As := [.int (nI 1), .int (zb_e f)]) (rest := []) ⟨hx, hb, hml, hown, ht⟩ hg_all (c_G_findBlocks l D ca hs (rt) (wd) (ob) (ln) (kd) (qt) (df) (mk) (fd) (fc) (oc) (cn) (1) (by first | omega | (unfold bk_f; omega)) (by first | omega | (unfold bk_f; omega)) (f) hk) wm_259 wm_260 wm_14 wm_34 wm_261 ⟨rfl, by decide, by decide, by decide +kernel⟩ rfl ⟨rfl, rfl⟩ ⟨by decide, by decide⟩ ⟨by decide, by decide⟩ hK hP hD rfl rfl rfl hl.1 rfl (Nat.le_of_ble_eq_true rfl) d_G_findRoom_37 ?_
      exact hret 40 ls (lr_e (32 * rm_b kd df f (1))) d_G_findRoom_40 (by unfold rm_n; rw [if_pos h3, if_neg hr])
  · skip
    refine lv_aload_n hx hb d_G_findRoom_6 rfl (lv_at hl 0 rfl) ?_
    refine lv_iload_n hx hb d_G_findRoom_7 rfl (lv_at hl 1 rfl) ?_
    refine gx_cS (n := 1) (own := R_G) (As := [.int (nI n)]) (rest := [.ref (hs 0)]) ⟨hx, hb, hml, hown, ht⟩ hg_all (c_G_blocksFor l (n) (by omega)) wm_256 wm_257 wm_34 wm_258 ⟨rfl, by decide, by decide, by decide +kernel⟩ rfl ⟨rfl, rfl⟩ ⟨by decide, by decide⟩ ⟨by decide, by decide⟩ hl.1 rfl (Nat.le_of_ble_eq_true rfl) d_G_findRoom_8 ?_
    refine lv_iload_n hx hb d_G_findRoom_11 rfl (lv_at hl 2 rfl) ?_
    refine gx_cV (n := 2) (q0 := 0) (ci := 0) (q := (R_G, F_G, 12)) (C := R_G) (own := R_G) (As := [.int (nI (bk_f (n))), .int (zb_e f)]) (rest := []) ⟨hx, hb, hml, hown, ht⟩ hg_all (c_G_findBlocks l D ca hs (rt) (wd) (ob) (ln) (kd) (qt) (df) (mk) (fd) (fc) (oc) (cn) (bk_f (n)) (by first | omega | (unfold bk_f; omega)) (by first | omega | (unfold bk_f; omega)) (f) hk) wm_259 wm_260 wm_14 wm_34 wm_261 ⟨rfl, by decide, by decide, by decide +kernel⟩ rfl ⟨rfl, rfl⟩ ⟨by decide, by decide⟩ ⟨by decide, by decide⟩ hK hP hD rfl rfl rfl hl.1 rfl (Nat.le_of_ble_eq_true rfl) d_G_findRoom_12 ?_
    exact hret 15 ls (lr_e (32 * rm_b kd df f (bk_f (n)))) d_G_findRoom_15 (by unfold rm_n; rw [if_neg (by omega)])

set_option maxHeartbeats 4000000 in
set_option maxRecDepth 100000 in
theorem c_G_base_in (l : Launch) (D : va_G) (ca : Nat → ClassId) (hs : Nat → Nat) (rt : Nat → Int32) (wd : Nat → Int32) (ob : Nat → Nat) (ln : Nat → Nat) (kd : Nat → Nat) (qt : Nat → Bool) (df : Nat → Bool) (mk : Nat → Bool) (fd : Nat → Nat) (fc : Nat) (oc : Nat) (cn : Nat) (i : Nat) (hi : i < 512) (ho : ∀ i, i < 512 → ob i < 513) : Met l y_G_base (Cond.code y_G_base b_G_base 3 (some .int) :: wa_all) (rm_d 2) (va_Pc [.ref (hs 0), .int (nI (4096 + i))] (gx_I D cl_all (ty_G ca) (gw_G ca hs rt wd ob ln kd qt df mk fd fc oc cn))) (QcRead (ba_e (ob i))) 0 0 (fun _ => False) := by
  refine gx_pureI (by decide) (Nat.le_of_ble_eq_true rfl) ?_
  intro p e s m args below meth c ls Q hx hb hml ht hown hret hP hK hD hl
  have hl : lv_has ls 3 [(0, .ref (hs 0)), (1, .int (nI (4096 + i)))] := hl
  have hown : s.vm.findClass R_G = some m.cls := hown
  refine lv_aload_n hx hb d_G_base_0 rfl (lv_at hl 0 rfl) ?_
  refine lv_iload_n hx hb d_G_base_1 rfl (lv_at hl 1 rfl) ?_
  refine gx_cV (n := 1) (q0 := 0) (ci := 0) (q := (R_G, F_G, 12)) (C := R_G) (own := R_G) (As := [.int (nI (4096 + i))]) (rest := []) ⟨hx, hb, hml, hown, ht⟩ hg_all (c_G_startAt_in l D ca hs (rt) (wd) (ob) (ln) (kd) (qt) (df) (mk) (fd) (fc) (oc) (cn) i hi) wm_113 wm_114 wm_4 wm_34 wm_115 ⟨rfl, by decide, by decide, by decide +kernel⟩ rfl ⟨rfl, rfl⟩ ⟨by decide, by decide⟩ ⟨by decide, by decide⟩ hK hP hD rfl rfl rfl hl.1 rfl (Nat.le_of_ble_eq_true rfl) d_G_base_2 ?_
  rcases zs_ca (ob i) with ⟨hc, e9⟩ | ⟨p, hc, e9⟩
  · skip
    refine nx_top e9 ?_
    refine lv_istore_n (lv' := [(2, .int (-1)), (0, .ref (hs 0)), (1, .int (nI (4096 + i)))]) hx hb d_G_base_5 rfl hl (by decide) rfl (fun ls hl => ?_)
    refine lv_iload_n hx hb d_G_base_6 rfl (lv_at hl 0 rfl) ?_
    refine lv_iconst (v := -1) hx hb d_G_base_7 (by decide +kernel) ?_
    refine lv_icmp_ne (tgt := 15) hx hb d_G_base_8 (by decide) (fun h => absurd rfl h) (fun _ => ?_)
    refine lv_iconst (v := -1) hx hb d_G_base_11 (by decide +kernel) ?_
    refine lv_goto (tgt := 20) hx hb d_G_base_12 (by decide) ?_
    exact hret 20 ls (-1) d_G_base_20 (by rw [hc]; rfl)
  · skip
    have hp := ho i hi
    rw [hc] at hp
    refine nx_top e9 ?_
    refine lv_istore_n (lv' := [(2, .int (nI p)), (0, .ref (hs 0)), (1, .int (nI (4096 + i)))]) hx hb d_G_base_5 rfl hl (by decide) rfl (fun ls hl => ?_)
    refine lv_iload_n hx hb d_G_base_6 rfl (lv_at hl 0 rfl) ?_
    refine lv_iconst (v := -1) hx hb d_G_base_7 (by decide +kernel) ?_
    refine lv_icmp_ne (tgt := 15) hx hb d_G_base_8 (by decide) (fun _ => ?_) (fun h => absurd h (zn_m1 (by omega)))
    refine lv_sipush (v := nI 4096) hx hb d_G_base_15 (by decide +kernel) ?_
    refine lv_iload_n hx hb d_G_base_18 rfl (lv_at hl 0 rfl) ?_
    refine nx_iadd hx hb d_G_base_19 ?_
    exact hret 20 ls (nI (4096 + p)) d_G_base_20 (by rw [hc]; unfold ba_e; rw [if_neg (by omega), Nat.add_sub_cancel])

set_option maxHeartbeats 4000000 in
set_option maxRecDepth 100000 in
theorem c_G_base_out (l : Launch) (D : va_G) (ca : Nat → ClassId) (hs : Nat → Nat) (rt : Nat → Int32) (wd : Nat → Int32) (ob : Nat → Nat) (ln : Nat → Nat) (kd : Nat → Nat) (qt : Nat → Bool) (df : Nat → Bool) (mk : Nat → Bool) (fd : Nat → Nat) (fc : Nat) (oc : Nat) (cn : Nat) (w : Int32) (hw : ad_b w = false) : Met l y_G_base (Cond.code y_G_base b_G_base 3 (some .int) :: wa_all) (rm_d 2) (va_Pc [.ref (hs 0), .int (w)] (gx_I D cl_all (ty_G ca) (gw_G ca hs rt wd ob ln kd qt df mk fd fc oc cn))) (QcRead (-1)) 0 0 (fun _ => False) := by
  refine gx_pureI (by decide) (Nat.le_of_ble_eq_true rfl) ?_
  intro p e s m args below meth c ls Q hx hb hml ht hown hret hP hK hD hl
  have hl : lv_has ls 3 [(0, .ref (hs 0)), (1, .int (w))] := hl
  have hown : s.vm.findClass R_G = some m.cls := hown
  refine lv_aload_n hx hb d_G_base_0 rfl (lv_at hl 0 rfl) ?_
  refine lv_iload_n hx hb d_G_base_1 rfl (lv_at hl 1 rfl) ?_
  refine gx_cV (n := 1) (q0 := 0) (ci := 0) (q := (R_G, F_G, 12)) (C := R_G) (own := R_G) (As := [.int (w)]) (rest := []) ⟨hx, hb, hml, hown, ht⟩ hg_all (c_G_startAt_out l D ca hs (rt) (wd) (ob) (ln) (kd) (qt) (df) (mk) (fd) (fc) (oc) (cn) w hw) wm_113 wm_114 wm_4 wm_34 wm_115 ⟨rfl, by decide, by decide, by decide +kernel⟩ rfl ⟨rfl, rfl⟩ ⟨by decide, by decide⟩ ⟨by decide, by decide⟩ hK hP hD rfl rfl rfl hl.1 rfl (Nat.le_of_ble_eq_true rfl) d_G_base_2 ?_
  refine lv_istore_n (lv' := [(2, .int (-1)), (0, .ref (hs 0)), (1, .int (w))]) hx hb d_G_base_5 rfl hl (by decide) rfl (fun ls hl => ?_)
  refine lv_iload_n hx hb d_G_base_6 rfl (lv_at hl 0 rfl) ?_
  refine lv_iconst (v := -1) hx hb d_G_base_7 (by decide +kernel) ?_
  refine lv_icmp_ne (tgt := 15) hx hb d_G_base_8 (by decide) (fun h => absurd rfl h) (fun _ => ?_)
  refine lv_iconst (v := -1) hx hb d_G_base_11 (by decide +kernel) ?_
  refine lv_goto (tgt := 20) hx hb d_G_base_12 (by decide) ?_
  exact hret 20 ls (-1) d_G_base_20 (rfl)

set_option maxHeartbeats 4000000 in
set_option maxRecDepth 100000 in
theorem c_G_size_in (l : Launch) (D : va_G) (ca : Nat → ClassId) (hs : Nat → Nat) (rt : Nat → Int32) (wd : Nat → Int32) (ob : Nat → Nat) (ln : Nat → Nat) (kd : Nat → Nat) (qt : Nat → Bool) (df : Nat → Bool) (mk : Nat → Bool) (fd : Nat → Nat) (fc : Nat) (oc : Nat) (cn : Nat) (i : Nat) (hi : i < 512) (ho : ∀ i, i < 512 → ob i < 513) : Met l y_G_size (Cond.code y_G_size b_G_size 3 (some .int) :: wa_all) (rm_d 2) (va_Pc [.ref (hs 0), .int (nI (4096 + i))] (gx_I D cl_all (ty_G ca) (gw_G ca hs rt wd ob ln kd qt df mk fd fc oc cn))) (QcRead (nI (sn_n ln (ob i)))) 0 0 (fun _ => False) := by
  refine gx_pureI (by decide) (Nat.le_of_ble_eq_true rfl) ?_
  intro p e s m args below meth c ls Q hx hb hml ht hown hret hP hK hD hl
  have hl : lv_has ls 3 [(0, .ref (hs 0)), (1, .int (nI (4096 + i)))] := hl
  have hown : s.vm.findClass R_G = some m.cls := hown
  refine lv_aload_n hx hb d_G_size_0 rfl (lv_at hl 0 rfl) ?_
  refine lv_iload_n hx hb d_G_size_1 rfl (lv_at hl 1 rfl) ?_
  refine gx_cV (n := 1) (q0 := 0) (ci := 0) (q := (R_G, F_G, 12)) (C := R_G) (own := R_G) (As := [.int (nI (4096 + i))]) (rest := []) ⟨hx, hb, hml, hown, ht⟩ hg_all (c_G_startAt_in l D ca hs (rt) (wd) (ob) (ln) (kd) (qt) (df) (mk) (fd) (fc) (oc) (cn) i hi) wm_113 wm_114 wm_4 wm_34 wm_115 ⟨rfl, by decide, by decide, by decide +kernel⟩ rfl ⟨rfl, rfl⟩ ⟨by decide, by decide⟩ ⟨by decide, by decide⟩ hK hP hD rfl rfl rfl hl.1 rfl (Nat.le_of_ble_eq_true rfl) d_G_size_2 ?_
  rcases zs_ca (ob i) with ⟨hc, e9⟩ | ⟨p, hc, e9⟩
  · skip
    refine nx_top e9 ?_
    refine lv_istore_n (lv' := [(2, .int (-1)), (0, .ref (hs 0)), (1, .int (nI (4096 + i)))]) hx hb d_G_size_5 rfl hl (by decide) rfl (fun ls hl => ?_)
    refine lv_iload_n hx hb d_G_size_6 rfl (lv_at hl 0 rfl) ?_
    refine lv_iconst (v := -1) hx hb d_G_size_7 (by decide +kernel) ?_
    refine lv_icmp_ne (tgt := 15) hx hb d_G_size_8 (by decide) (fun h => absurd rfl h) (fun _ => ?_)
    refine lv_iconst (v := nI 0) hx hb d_G_size_11 (by decide +kernel) ?_
    refine lv_goto (tgt := 21) hx hb d_G_size_12 (by decide) ?_
    exact hret 21 ls (nI 0) d_G_size_21 (by rw [hc]; rfl)
  · skip
    have hp := ho i hi
    rw [hc] at hp
    refine nx_top e9 ?_
    refine lv_istore_n (lv' := [(2, .int (nI p)), (0, .ref (hs 0)), (1, .int (nI (4096 + i)))]) hx hb d_G_size_5 rfl hl (by decide) rfl (fun ls hl => ?_)
    refine lv_iload_n hx hb d_G_size_6 rfl (lv_at hl 0 rfl) ?_
    refine lv_iconst (v := -1) hx hb d_G_size_7 (by decide +kernel) ?_
    refine lv_icmp_ne (tgt := 15) hx hb d_G_size_8 (by decide) (fun _ => ?_) (fun h => absurd h (zn_m1 (by omega)))
    refine lv_aload_n hx hb d_G_size_15 rfl (lv_at hl 1 rfl) ?_
    refine va_get (D := D) (ci := 0) (v := .ref (hs 6)) (C := R_G) (T := F_G) (N := 12) hx hb ht in_G hown hK hP 0 rfl rfl 5 (by decide) (ht _ wm_60) (fun _ h9 => h9) rfl d_G_size_16 ?_
    refine lv_iload_n hx hb d_G_size_19 rfl (lv_at hl 0 rfl) ?_
    refine nx_iald hx hb hK hP 6 5 nI ln rfl rfl p (by omega) (by decide) d_G_size_20 ?_
    exact hret 21 ls (nI (ln p)) d_G_size_21 (by rw [hc]; unfold sn_n; rw [if_neg (by omega), Nat.add_sub_cancel])

set_option maxHeartbeats 4000000 in
set_option maxRecDepth 100000 in
theorem c_G_size_out (l : Launch) (D : va_G) (ca : Nat → ClassId) (hs : Nat → Nat) (rt : Nat → Int32) (wd : Nat → Int32) (ob : Nat → Nat) (ln : Nat → Nat) (kd : Nat → Nat) (qt : Nat → Bool) (df : Nat → Bool) (mk : Nat → Bool) (fd : Nat → Nat) (fc : Nat) (oc : Nat) (cn : Nat) (w : Int32) (hw : ad_b w = false) : Met l y_G_size (Cond.code y_G_size b_G_size 3 (some .int) :: wa_all) (rm_d 2) (va_Pc [.ref (hs 0), .int (w)] (gx_I D cl_all (ty_G ca) (gw_G ca hs rt wd ob ln kd qt df mk fd fc oc cn))) (QcRead (nI 0)) 0 0 (fun _ => False) := by
  refine gx_pureI (by decide) (Nat.le_of_ble_eq_true rfl) ?_
  intro p e s m args below meth c ls Q hx hb hml ht hown hret hP hK hD hl
  have hl : lv_has ls 3 [(0, .ref (hs 0)), (1, .int (w))] := hl
  have hown : s.vm.findClass R_G = some m.cls := hown
  refine lv_aload_n hx hb d_G_size_0 rfl (lv_at hl 0 rfl) ?_
  refine lv_iload_n hx hb d_G_size_1 rfl (lv_at hl 1 rfl) ?_
  refine gx_cV (n := 1) (q0 := 0) (ci := 0) (q := (R_G, F_G, 12)) (C := R_G) (own := R_G) (As := [.int (w)]) (rest := []) ⟨hx, hb, hml, hown, ht⟩ hg_all (c_G_startAt_out l D ca hs (rt) (wd) (ob) (ln) (kd) (qt) (df) (mk) (fd) (fc) (oc) (cn) w hw) wm_113 wm_114 wm_4 wm_34 wm_115 ⟨rfl, by decide, by decide, by decide +kernel⟩ rfl ⟨rfl, rfl⟩ ⟨by decide, by decide⟩ ⟨by decide, by decide⟩ hK hP hD rfl rfl rfl hl.1 rfl (Nat.le_of_ble_eq_true rfl) d_G_size_2 ?_
  refine lv_istore_n (lv' := [(2, .int (-1)), (0, .ref (hs 0)), (1, .int (w))]) hx hb d_G_size_5 rfl hl (by decide) rfl (fun ls hl => ?_)
  refine lv_iload_n hx hb d_G_size_6 rfl (lv_at hl 0 rfl) ?_
  refine lv_iconst (v := -1) hx hb d_G_size_7 (by decide +kernel) ?_
  refine lv_icmp_ne (tgt := 15) hx hb d_G_size_8 (by decide) (fun h => absurd rfl h) (fun _ => ?_)
  refine lv_iconst (v := nI 0) hx hb d_G_size_11 (by decide +kernel) ?_
  refine lv_goto (tgt := 21) hx hb d_G_size_12 (by decide) ?_
  exact hret 21 ls (nI 0) d_G_size_21 (rfl)

set_option maxHeartbeats 4000000 in
set_option maxRecDepth 100000 in
theorem c_G_silent_in (l : Launch) (D : va_G) (ca : Nat → ClassId) (hs : Nat → Nat) (rt : Nat → Int32) (wd : Nat → Int32) (ob : Nat → Nat) (ln : Nat → Nat) (kd : Nat → Nat) (qt : Nat → Bool) (df : Nat → Bool) (mk : Nat → Bool) (fd : Nat → Nat) (fc : Nat) (oc : Nat) (cn : Nat) (i : Nat) (hi : i < 512) (ho : ∀ i, i < 512 → ob i < 513) : Met l y_G_silent (Cond.code y_G_silent b_G_silent 3 (some .boolean) :: wa_all) (rm_d 2) (va_Pc [.ref (hs 0), .int (nI (4096 + i))] (gx_I D cl_all (ty_G ca) (gw_G ca hs rt wd ob ln kd qt df mk fd fc oc cn))) (QcRead (zb_e (sq_b qt (ob i)))) 0 0 (fun _ => False) := by
  refine gx_pureZ (by decide) (Nat.le_of_ble_eq_true rfl) ?_
  intro p e s m args below meth c ls Q hx hb hml ht hown hret hP hK hD hl
  have hl : lv_has ls 3 [(0, .ref (hs 0)), (1, .int (nI (4096 + i)))] := hl
  have hown : s.vm.findClass R_G = some m.cls := hown
  refine lv_aload_n hx hb d_G_silent_0 rfl (lv_at hl 0 rfl) ?_
  refine lv_iload_n hx hb d_G_silent_1 rfl (lv_at hl 1 rfl) ?_
  refine gx_cV (n := 1) (q0 := 0) (ci := 0) (q := (R_G, F_G, 12)) (C := R_G) (own := R_G) (As := [.int (nI (4096 + i))]) (rest := []) ⟨hx, hb, hml, hown, ht⟩ hg_all (c_G_startAt_in l D ca hs (rt) (wd) (ob) (ln) (kd) (qt) (df) (mk) (fd) (fc) (oc) (cn) i hi) wm_113 wm_114 wm_4 wm_34 wm_115 ⟨rfl, by decide, by decide, by decide +kernel⟩ rfl ⟨rfl, rfl⟩ ⟨by decide, by decide⟩ ⟨by decide, by decide⟩ hK hP hD rfl rfl rfl hl.1 rfl (Nat.le_of_ble_eq_true rfl) d_G_silent_2 ?_
  rcases zs_ca (ob i) with ⟨hc, e9⟩ | ⟨p, hc, e9⟩
  · skip
    refine nx_top e9 ?_
    refine lv_istore_n (lv' := [(2, .int (-1)), (0, .ref (hs 0)), (1, .int (nI (4096 + i)))]) hx hb d_G_silent_5 rfl hl (by decide) rfl (fun ls hl => ?_)
    refine lv_iload_n hx hb d_G_silent_6 rfl (lv_at hl 0 rfl) ?_
    refine lv_iconst (v := -1) hx hb d_G_silent_7 (by decide +kernel) ?_
    refine lv_icmp_eq (tgt := 24) hx hb d_G_silent_8 (by decide) (fun _ => ?_) (fun h => absurd rfl h)
    refine lv_iconst (v := zb_e false) hx hb d_G_silent_24 (by decide +kernel) ?_
    exact hret 25 ls (false) d_G_silent_25 (by rw [hc]; rfl)
  · skip
    have hp := ho i hi
    rw [hc] at hp
    refine nx_top e9 ?_
    refine lv_istore_n (lv' := [(2, .int (nI p)), (0, .ref (hs 0)), (1, .int (nI (4096 + i)))]) hx hb d_G_silent_5 rfl hl (by decide) rfl (fun ls hl => ?_)
    refine lv_iload_n hx hb d_G_silent_6 rfl (lv_at hl 0 rfl) ?_
    refine lv_iconst (v := -1) hx hb d_G_silent_7 (by decide +kernel) ?_
    refine lv_icmp_eq (tgt := 24) hx hb d_G_silent_8 (by decide) (fun h => absurd h (zn_m1 (by omega))) (fun _ => ?_)
    refine lv_aload_n hx hb d_G_silent_11 rfl (lv_at hl 1 rfl) ?_
    refine va_get (D := D) (ci := 0) (v := .ref (hs 7)) (C := R_G) (T := F_G) (N := 12) hx hb ht in_G hown hK hP 0 rfl rfl 6 (by decide) (ht _ wm_61) (fun _ h9 => h9) rfl d_G_silent_12 ?_
    refine lv_iload_n hx hb d_G_silent_15 rfl (lv_at hl 0 rfl) ?_
    refine nx_zald hx hb hK hP 7 6 zb_e qt rfl rfl p (by omega) (by decide) d_G_silent_16 ?_
    refine nx_if_eq_b (tgt := 24) hx hb d_G_silent_17 (by decide) (fun h17 => ?_) (fun h17 => ?_)
    · skip
      refine lv_iconst (v := zb_e false) hx hb d_G_silent_24 (by decide +kernel) ?_
      exact hret 25 ls (false) d_G_silent_25 (by rw [hc]; unfold sq_b; rw [if_neg (by omega), Nat.add_sub_cancel, h17])
    · skip
      refine lv_iconst (v := zb_e true) hx hb d_G_silent_20 (by decide +kernel) ?_
      refine lv_goto (tgt := 25) hx hb d_G_silent_21 (by decide) ?_
      exact hret 25 ls (true) d_G_silent_25 (by rw [hc]; unfold sq_b; rw [if_neg (by omega), Nat.add_sub_cancel, h17])

set_option maxHeartbeats 4000000 in
set_option maxRecDepth 100000 in
theorem c_G_silent_out (l : Launch) (D : va_G) (ca : Nat → ClassId) (hs : Nat → Nat) (rt : Nat → Int32) (wd : Nat → Int32) (ob : Nat → Nat) (ln : Nat → Nat) (kd : Nat → Nat) (qt : Nat → Bool) (df : Nat → Bool) (mk : Nat → Bool) (fd : Nat → Nat) (fc : Nat) (oc : Nat) (cn : Nat) (w : Int32) (hw : ad_b w = false) : Met l y_G_silent (Cond.code y_G_silent b_G_silent 3 (some .boolean) :: wa_all) (rm_d 2) (va_Pc [.ref (hs 0), .int (w)] (gx_I D cl_all (ty_G ca) (gw_G ca hs rt wd ob ln kd qt df mk fd fc oc cn))) (QcRead (zb_e false)) 0 0 (fun _ => False) := by
  refine gx_pureZ (by decide) (Nat.le_of_ble_eq_true rfl) ?_
  intro p e s m args below meth c ls Q hx hb hml ht hown hret hP hK hD hl
  have hl : lv_has ls 3 [(0, .ref (hs 0)), (1, .int (w))] := hl
  have hown : s.vm.findClass R_G = some m.cls := hown
  refine lv_aload_n hx hb d_G_silent_0 rfl (lv_at hl 0 rfl) ?_
  refine lv_iload_n hx hb d_G_silent_1 rfl (lv_at hl 1 rfl) ?_
  refine gx_cV (n := 1) (q0 := 0) (ci := 0) (q := (R_G, F_G, 12)) (C := R_G) (own := R_G) (As := [.int (w)]) (rest := []) ⟨hx, hb, hml, hown, ht⟩ hg_all (c_G_startAt_out l D ca hs (rt) (wd) (ob) (ln) (kd) (qt) (df) (mk) (fd) (fc) (oc) (cn) w hw) wm_113 wm_114 wm_4 wm_34 wm_115 ⟨rfl, by decide, by decide, by decide +kernel⟩ rfl ⟨rfl, rfl⟩ ⟨by decide, by decide⟩ ⟨by decide, by decide⟩ hK hP hD rfl rfl rfl hl.1 rfl (Nat.le_of_ble_eq_true rfl) d_G_silent_2 ?_
  refine lv_istore_n (lv' := [(2, .int (-1)), (0, .ref (hs 0)), (1, .int (w))]) hx hb d_G_silent_5 rfl hl (by decide) rfl (fun ls hl => ?_)
  refine lv_iload_n hx hb d_G_silent_6 rfl (lv_at hl 0 rfl) ?_
  refine lv_iconst (v := -1) hx hb d_G_silent_7 (by decide +kernel) ?_
  refine lv_icmp_eq (tgt := 24) hx hb d_G_silent_8 (by decide) (fun _ => ?_) (fun h => absurd rfl h)
  refine lv_iconst (v := zb_e false) hx hb d_G_silent_24 (by decide +kernel) ?_
  exact hret 25 ls (false) d_G_silent_25 (rfl)

set_option maxHeartbeats 4000000 in
set_option maxRecDepth 100000 in
theorem c_G_block_in (l : Launch) (D : va_G) (ca : Nat → ClassId) (hs : Nat → Nat) (rt : Nat → Int32) (wd : Nat → Int32) (ob : Nat → Nat) (ln : Nat → Nat) (kd : Nat → Nat) (qt : Nat → Bool) (df : Nat → Bool) (mk : Nat → Bool) (fd : Nat → Nat) (fc : Nat) (oc : Nat) (cn : Nat) (b : Nat) (hb16 : b < 16) : Met l y_G_block (Cond.code y_G_block b_G_block 2 (some .int) :: wa_all) (rm_d 1) (va_Pc [.ref (hs 0), .int (nI b)] (gx_I D cl_all (ty_G ca) (gw_G ca hs rt wd ob ln kd qt df mk fd fc oc cn))) (QcRead (nI (bl_n kd df b))) 0 0 (fun _ => False) := by
  refine gx_pureI (by decide) (Nat.le_of_ble_eq_true rfl) ?_
  intro p e s m args below meth c ls Q hx hb hml ht hown hret hP hK hD hl
  have hl : lv_has ls 2 [(0, .ref (hs 0)), (1, .int (nI b))] := hl
  have hown : s.vm.findClass R_G = some m.cls := hown
  refine lv_iload_n hx hb d_G_block_0 rfl (lv_at hl 1 rfl) ?_
  refine gx_cS (n := 1) (own := R_G) (As := [.int (nI b)]) (rest := []) ⟨hx, hb, hml, hown, ht⟩ hg_all (c_G_isBlock l (nI b)) wm_224 wm_225 wm_34 wm_226 ⟨rfl, by decide, by decide, by decide +kernel⟩ rfl ⟨rfl, rfl⟩ ⟨by decide, by decide⟩ ⟨by decide, by decide⟩ hl.1 rfl (Nat.le_of_ble_eq_true rfl) d_G_block_1 ?_
  refine nx_if_ne_b (tgt := 9) hx hb d_G_block_4 (by decide) (fun h4 => ?_) (fun h4 => ?_)
  · skip
    refine lv_aload_n hx hb d_G_block_9 rfl (lv_at hl 0 rfl) ?_
    refine va_get (D := D) (ci := 0) (v := .ref (hs 3)) (C := R_G) (T := F_G) (N := 12) hx hb ht in_G hown hK hP 0 rfl rfl 2 (by decide) (ht _ wm_57) (fun _ h9 => h9) rfl d_G_block_10 ?_
    refine lv_iload_n hx hb d_G_block_13 rfl (lv_at hl 1 rfl) ?_
    refine nx_zald hx hb hK hP 3 2 zb_e df rfl rfl b (by omega) (by decide) d_G_block_14 ?_
    refine nx_if_eq_b (tgt := 30) hx hb d_G_block_15 (by decide) (fun h15 => ?_) (fun h15 => ?_)
    · skip
      refine lv_aload_n hx hb d_G_block_30 rfl (lv_at hl 0 rfl) ?_
      refine va_get (D := D) (ci := 0) (v := .ref (hs 2)) (C := R_G) (T := F_G) (N := 12) hx hb ht in_G hown hK hP 0 rfl rfl 1 (by decide) (ht _ wm_56) (fun _ h9 => h9) rfl d_G_block_31 ?_
      refine lv_iload_n hx hb d_G_block_34 rfl (lv_at hl 1 rfl) ?_
      refine nx_iald hx hb hK hP 2 1 nI kd rfl rfl b (by omega) (by decide) d_G_block_35 ?_
      exact hret 36 ls (nI (kd b)) d_G_block_36 (by unfold bl_n; rw [if_neg (by rw [h15]; decide)])
    · skip
      refine lv_aload_n hx hb d_G_block_18 rfl (lv_at hl 0 rfl) ?_
      refine va_get (D := D) (ci := 0) (v := .ref (hs 2)) (C := R_G) (T := F_G) (N := 12) hx hb ht in_G hown hK hP 0 rfl rfl 1 (by decide) (ht _ wm_56) (fun _ h9 => h9) rfl d_G_block_19 ?_
      refine lv_iload_n hx hb d_G_block_22 rfl (lv_at hl 1 rfl) ?_
      refine nx_iald hx hb hK hP 2 1 nI kd rfl rfl b (by omega) (by decide) d_G_block_23 ?_
      refine lv_bipush (v := nI 64) hx hb d_G_block_24 (by decide +kernel) ?_
      refine nx_iadd hx hb d_G_block_26 ?_
      refine lv_goto (tgt := 36) hx hb d_G_block_27 (by decide) ?_
      exact hret 36 ls (nI ((kd b) + 64)) d_G_block_36 (by unfold bl_n; rw [if_pos h15])
  · skip
    rw [bk_i hb16] at h4
    cases h4

set_option maxHeartbeats 4000000 in
set_option maxRecDepth 100000 in
theorem c_G_block_out (l : Launch) (D : va_G) (ca : Nat → ClassId) (hs : Nat → Nat) (rt : Nat → Int32) (wd : Nat → Int32) (ob : Nat → Nat) (ln : Nat → Nat) (kd : Nat → Nat) (qt : Nat → Bool) (df : Nat → Bool) (mk : Nat → Bool) (fd : Nat → Nat) (fc : Nat) (oc : Nat) (cn : Nat) (w : Int32) (hw : bk_b w = false) : Met l y_G_block (Cond.code y_G_block b_G_block 2 (some .int) :: wa_all) (rm_d 1) (va_Pc [.ref (hs 0), .int (w)] (gx_I D cl_all (ty_G ca) (gw_G ca hs rt wd ob ln kd qt df mk fd fc oc cn))) (QcRead (-1)) 0 0 (fun _ => False) := by
  refine gx_pureI (by decide) (Nat.le_of_ble_eq_true rfl) ?_
  intro p e s m args below meth c ls Q hx hb hml ht hown hret hP hK hD hl
  have hl : lv_has ls 2 [(0, .ref (hs 0)), (1, .int (w))] := hl
  have hown : s.vm.findClass R_G = some m.cls := hown
  refine lv_iload_n hx hb d_G_block_0 rfl (lv_at hl 1 rfl) ?_
  refine gx_cS (n := 1) (own := R_G) (As := [.int (w)]) (rest := []) ⟨hx, hb, hml, hown, ht⟩ hg_all (c_G_isBlock l (w)) wm_224 wm_225 wm_34 wm_226 ⟨rfl, by decide, by decide, by decide +kernel⟩ rfl ⟨rfl, rfl⟩ ⟨by decide, by decide⟩ ⟨by decide, by decide⟩ hl.1 rfl (Nat.le_of_ble_eq_true rfl) d_G_block_1 ?_
  refine nx_if_ne_b (tgt := 9) hx hb d_G_block_4 (by decide) (fun h4 => ?_) (fun h4 => ?_)
  · skip
    rw [hw] at h4
    cases h4
  · skip
    refine lv_iconst (v := -1) hx hb d_G_block_7 (by decide +kernel) ?_
    exact hret 8 ls (-1) d_G_block_8 (rfl)

set_option maxHeartbeats 4000000 in
set_option maxRecDepth 100000 in
theorem c_G_empty_in (l : Launch) (D : va_G) (ca : Nat → ClassId) (hs : Nat → Nat) (rt : Nat → Int32) (wd : Nat → Int32) (ob : Nat → Nat) (ln : Nat → Nat) (kd : Nat → Nat) (qt : Nat → Bool) (df : Nat → Bool) (mk : Nat → Bool) (fd : Nat → Nat) (fc : Nat) (oc : Nat) (cn : Nat) (b : Nat) (hb16 : b < 16) (hk : ∀ b, b < 16 → kd b < 34) (ho : ∀ i, i < 512 → ob i < 513) : Met l y_G_empty (Cond.code y_G_empty b_G_empty 2 (some .int) :: wa_all) (rm_d 1) (va_Pc [.ref (hs 0), .int (nI b)] (gx_I D cl_all (ty_G ca) (gw_G ca hs rt wd ob ln kd qt df mk fd fc oc cn))) (QcRead (nI (em_n ob kd b))) 0 0 (fun _ => False) := by
  refine gx_pureI (by decide) (Nat.le_of_ble_eq_true rfl) ?_
  intro p e s m args below meth c ls Q hx hb hml ht hown hret hP hK hD hl
  have hl : lv_has ls 2 [(0, .ref (hs 0)), (1, .int (nI b))] := hl
  have hown : s.vm.findClass R_G = some m.cls := hown
  have hkb := hk b hb16
  have hfw : fw_n ob b ≤ 32 := cn_le _ _
  refine lv_iload_n hx hb d_G_empty_0 rfl (lv_at hl 1 rfl) ?_
  refine gx_cS (n := 1) (own := R_G) (As := [.int (nI b)]) (rest := []) ⟨hx, hb, hml, hown, ht⟩ hg_all (c_G_isBlock l (nI b)) wm_224 wm_225 wm_34 wm_226 ⟨rfl, by decide, by decide, by decide +kernel⟩ rfl ⟨rfl, rfl⟩ ⟨by decide, by decide⟩ ⟨by decide, by decide⟩ hl.1 rfl (Nat.le_of_ble_eq_true rfl) d_G_empty_1 ?_
  refine nx_if_eq_b (tgt := 15) hx hb d_G_empty_4 (by decide) (fun h4 => ?_) (fun h4 => ?_)
  · skip
    rw [bk_i hb16] at h4
    cases h4
  · skip
    refine lv_aload_n hx hb d_G_empty_7 rfl (lv_at hl 0 rfl) ?_
    refine lv_iload_n hx hb d_G_empty_8 rfl (lv_at hl 1 rfl) ?_
    refine gx_cV (n := 1) (q0 := 0) (ci := 0) (q := (R_G, F_G, 12)) (C := R_G) (own := R_G) (As := [.int (nI b)]) (rest := []) ⟨hx, hb, hml, hown, ht⟩ hg_all (c_G_isSplit l D ca hs (rt) (wd) (ob) (ln) (kd) (qt) (df) (mk) (fd) (fc) (oc) (cn) (b) (by omega) hk) wm_231 wm_232 wm_12 wm_34 wm_233 ⟨rfl, by decide, by decide, by decide +kernel⟩ rfl ⟨rfl, rfl⟩ ⟨by decide, by decide⟩ ⟨by decide, by decide⟩ hK hP hD rfl rfl rfl hl.1 rfl (Nat.le_of_ble_eq_true rfl) d_G_empty_9 ?_
    refine nx_if_ne_b (tgt := 17) hx hb d_G_empty_12 (by decide) (fun h12 => ?_) (fun h12 => ?_)
    · skip
      have h12 := of_decide_eq_true h12
      refine lv_aload_n hx hb d_G_empty_17 rfl (lv_at hl 0 rfl) ?_
      refine lv_iload_n hx hb d_G_empty_18 rfl (lv_at hl 1 rfl) ?_
      refine gx_cV (n := 1) (q0 := 0) (ci := 0) (q := (R_G, F_G, 12)) (C := R_G) (own := R_G) (As := [.int (nI b)]) (rest := []) ⟨hx, hb, hml, hown, ht⟩ hg_all (c_G_wordsInNoObject l D ca hs (rt) (wd) (ob) (ln) (kd) (qt) (df) (mk) (fd) (fc) (oc) (cn) (b) (by omega) (ho)) wm_205 wm_206 wm_11 wm_34 wm_207 ⟨rfl, by decide, by decide, by decide +kernel⟩ rfl ⟨rfl, rfl⟩ ⟨by decide, by decide⟩ ⟨by decide, by decide⟩ hK hP hD rfl rfl rfl hl.1 rfl (Nat.le_of_ble_eq_true rfl) d_G_empty_19 ?_
      refine lv_aload_n hx hb d_G_empty_22 rfl (lv_at hl 0 rfl) ?_
      refine va_get (D := D) (ci := 0) (v := .ref (hs 2)) (C := R_G) (T := F_G) (N := 12) hx hb ht in_G hown hK hP 0 rfl rfl 1 (by decide) (ht _ wm_56) (fun _ h9 => h9) rfl d_G_empty_23 ?_
      refine lv_iload_n hx hb d_G_empty_26 rfl (lv_at hl 1 rfl) ?_
      refine nx_iald hx hb hK hP 2 1 nI kd rfl rfl b (by omega) (by decide) d_G_empty_27 ?_
      refine nx_idiv hx hb d_G_empty_28 (by omega) (by omega) (by omega) ?_
      exact hret 29 ls (nI ((fw_n (ob) (b)) / (kd b))) d_G_empty_29 (by unfold em_n; rw [if_pos h12])
    · skip
      have h12 := of_decide_eq_false h12
      refine lv_iconst (v := nI 0) hx hb d_G_empty_15 (by decide +kernel) ?_
      exact hret 16 ls (nI 0) d_G_empty_16 (by unfold em_n; rw [if_neg h12])

set_option maxHeartbeats 4000000 in
set_option maxRecDepth 100000 in
theorem c_G_empty_out (l : Launch) (D : va_G) (ca : Nat → ClassId) (hs : Nat → Nat) (rt : Nat → Int32) (wd : Nat → Int32) (ob : Nat → Nat) (ln : Nat → Nat) (kd : Nat → Nat) (qt : Nat → Bool) (df : Nat → Bool) (mk : Nat → Bool) (fd : Nat → Nat) (fc : Nat) (oc : Nat) (cn : Nat) (w : Int32) (hw : bk_b w = false) : Met l y_G_empty (Cond.code y_G_empty b_G_empty 2 (some .int) :: wa_all) (rm_d 1) (va_Pc [.ref (hs 0), .int (w)] (gx_I D cl_all (ty_G ca) (gw_G ca hs rt wd ob ln kd qt df mk fd fc oc cn))) (QcRead (nI 0)) 0 0 (fun _ => False) := by
  refine gx_pureI (by decide) (Nat.le_of_ble_eq_true rfl) ?_
  intro p e s m args below meth c ls Q hx hb hml ht hown hret hP hK hD hl
  have hl : lv_has ls 2 [(0, .ref (hs 0)), (1, .int (w))] := hl
  have hown : s.vm.findClass R_G = some m.cls := hown
  refine lv_iload_n hx hb d_G_empty_0 rfl (lv_at hl 1 rfl) ?_
  refine gx_cS (n := 1) (own := R_G) (As := [.int (w)]) (rest := []) ⟨hx, hb, hml, hown, ht⟩ hg_all (c_G_isBlock l (w)) wm_224 wm_225 wm_34 wm_226 ⟨rfl, by decide, by decide, by decide +kernel⟩ rfl ⟨rfl, rfl⟩ ⟨by decide, by decide⟩ ⟨by decide, by decide⟩ hl.1 rfl (Nat.le_of_ble_eq_true rfl) d_G_empty_1 ?_
  refine nx_if_eq_b (tgt := 15) hx hb d_G_empty_4 (by decide) (fun h4 => ?_) (fun h4 => ?_)
  · skip
    refine lv_iconst (v := nI 0) hx hb d_G_empty_15 (by decide +kernel) ?_
    exact hret 16 ls (nI 0) d_G_empty_16 (rfl)
  · skip
    rw [hw] at h4
    cases h4

set_option maxHeartbeats 4000000 in
set_option maxRecDepth 100000 in
theorem c_G_objects (l : Launch) (D : va_G) (ca : Nat → ClassId) (hs : Nat → Nat) (rt : Nat → Int32) (wd : Nat → Int32) (ob : Nat → Nat) (ln : Nat → Nat) (kd : Nat → Nat) (qt : Nat → Bool) (df : Nat → Bool) (mk : Nat → Bool) (fd : Nat → Nat) (fc : Nat) (oc : Nat) (cn : Nat)  : Met l y_G_objects (Cond.code y_G_objects b_G_objects 1 (some .int) :: wa_all) (rm_d 0) (va_Pc [.ref (hs 0)] (gx_I D cl_all (ty_G ca) (gw_G ca hs rt wd ob ln kd qt df mk fd fc oc cn))) (QcRead (nI oc)) 0 0 (fun _ => False) := by
  refine gx_pureI (by decide) (Nat.le_of_ble_eq_true rfl) ?_
  intro p e s m args below meth c ls Q hx hb hml ht hown hret hP hK hD hl
  have hl : lv_has ls 1 [(0, .ref (hs 0))] := hl
  have hown : s.vm.findClass R_G = some m.cls := hown
  refine lv_aload_n hx hb d_G_objects_0 rfl (lv_at hl 0 rfl) ?_
  refine va_get (D := D) (ci := 0) (v := .int (nI oc)) (C := R_G) (T := F_G) (N := 12) hx hb ht in_G hown hK hP 0 rfl rfl 10 (by decide) (ht _ wm_65) (fun _ h9 => h9) rfl d_G_objects_1 ?_
  exact hret 4 ls (nI oc) d_G_objects_4 (rfl)

set_option maxHeartbeats 4000000 in
set_option maxRecDepth 100000 in
theorem c_G_collections (l : Launch) (D : va_G) (ca : Nat → ClassId) (hs : Nat → Nat) (rt : Nat → Int32) (wd : Nat → Int32) (ob : Nat → Nat) (ln : Nat → Nat) (kd : Nat → Nat) (qt : Nat → Bool) (df : Nat → Bool) (mk : Nat → Bool) (fd : Nat → Nat) (fc : Nat) (oc : Nat) (cn : Nat)  : Met l y_G_collections (Cond.code y_G_collections b_G_collections 1 (some .int) :: wa_all) (rm_d 0) (va_Pc [.ref (hs 0)] (gx_I D cl_all (ty_G ca) (gw_G ca hs rt wd ob ln kd qt df mk fd fc oc cn))) (QcRead (nI cn)) 0 0 (fun _ => False) := by
  refine gx_pureI (by decide) (Nat.le_of_ble_eq_true rfl) ?_
  intro p e s m args below meth c ls Q hx hb hml ht hown hret hP hK hD hl
  have hl : lv_has ls 1 [(0, .ref (hs 0))] := hl
  have hown : s.vm.findClass R_G = some m.cls := hown
  refine lv_aload_n hx hb d_G_collections_0 rfl (lv_at hl 0 rfl) ?_
  refine va_get (D := D) (ci := 0) (v := .int (nI cn)) (C := R_G) (T := F_G) (N := 12) hx hb ht in_G hown hK hP 0 rfl rfl 11 (by decide) (ht _ wm_66) (fun _ h9 => h9) rfl d_G_collections_1 ?_
  exact hret 4 ls (nI cn) d_G_collections_4 (rfl)

set_option maxHeartbeats 4000000 in
set_option maxRecDepth 100000 in
theorem c_G_checkRoot_in (l : Launch) (r : Nat) (hr8 : r < 8) : Met l y_G_checkRoot (Cond.code y_G_checkRoot b_G_checkRoot 1 none :: wa_all) (rm_d 0) (fun v _ => v = ([.int (nI r)] : List Value).toArray) gx_V 0 0 (fun _ => False) := by
  refine gx_statV (by decide) (Nat.le_of_ble_eq_true rfl) ?_
  intro p e s m args below meth c ls Q hx hb hml ht hown hret hl
  have hl : lv_has ls 1 [(0, .int (nI r))] := hl
  have hown : s.vm.findClass R_G = some m.cls := hown
  refine lv_iload_n hx hb d_G_checkRoot_0 rfl (lv_at hl 0 rfl) ?_
  refine lv_if_lt (tgt := 10) hx hb d_G_checkRoot_1 (by decide) (fun h => absurd h (nI_pos (by omega))) (fun _ => ?_)
  refine lv_iload_n hx hb d_G_checkRoot_4 rfl (lv_at hl 0 rfl) ?_
  refine lv_bipush (v := nI 8) hx hb d_G_checkRoot_5 (by decide +kernel) ?_
  refine nx_icmp_lt (tgt := 20) hx hb d_G_checkRoot_7 (by decide) (by omega) (by omega) (fun h7 => ?_) (fun h7 => ?_)
  · skip
    exact hret 20 ls d_G_checkRoot_20
  · skip
    omega

set_option maxHeartbeats 4000000 in
set_option maxRecDepth 100000 in
theorem c_G_checkInObject_in (l : Launch) (D : va_G) (ca : Nat → ClassId) (hs : Nat → Nat) (rt : Nat → Int32) (wd : Nat → Int32) (ob : Nat → Nat) (ln : Nat → Nat) (kd : Nat → Nat) (qt : Nat → Bool) (df : Nat → Bool) (mk : Nat → Bool) (fd : Nat → Nat) (fc : Nat) (oc : Nat) (cn : Nat) (i : Nat) (hi : i < 512) (ho : ∀ i, i < 512 → ob i < 513) (hne : ob i ≠ 0) : Met l y_G_checkInObject (Cond.code y_G_checkInObject b_G_checkInObject 2 none :: wa_all) (rm_d 2) (va_Pc [.ref (hs 0), .int (nI (4096 + i))] (gx_I D cl_all (ty_G ca) (gw_G ca hs rt wd ob ln kd qt df mk fd fc oc cn))) gx_V 0 0 (fun _ => False) := by
  refine gx_pureV (by decide) (Nat.le_of_ble_eq_true rfl) ?_
  intro p e s m args below meth c ls Q hx hb hml ht hown hret hP hK hD hl
  have hl : lv_has ls 2 [(0, .ref (hs 0)), (1, .int (nI (4096 + i)))] := hl
  have hown : s.vm.findClass R_G = some m.cls := hown
  refine lv_iload_n hx hb d_G_checkInObject_0 rfl (lv_at hl 1 rfl) ?_
  refine gx_cS (n := 1) (own := R_G) (As := [.int (nI (4096 + i))]) (rest := []) ⟨hx, hb, hml, hown, ht⟩ hg_all (c_G_isAddress l (nI (4096 + i))) wm_110 wm_111 wm_34 wm_112 ⟨rfl, by decide, by decide, by decide +kernel⟩ rfl ⟨rfl, rfl⟩ ⟨by decide, by decide⟩ ⟨by decide, by decide⟩ hl.1 rfl (Nat.le_of_ble_eq_true rfl) d_G_checkInObject_1 ?_
  refine nx_if_ne_b (tgt := 17) hx hb d_G_checkInObject_4 (by decide) (fun h4 => ?_) (fun h4 => ?_)
  · skip
    refine lv_aload_n hx hb d_G_checkInObject_17 rfl (lv_at hl 0 rfl) ?_
    refine lv_iload_n hx hb d_G_checkInObject_18 rfl (lv_at hl 1 rfl) ?_
    refine gx_cV (n := 1) (q0 := 0) (ci := 0) (q := (R_G, F_G, 12)) (C := R_G) (own := R_G) (As := [.int (nI (4096 + i))]) (rest := []) ⟨hx, hb, hml, hown, ht⟩ hg_all (c_G_startAt_in l D ca hs (rt) (wd) (ob) (ln) (kd) (qt) (df) (mk) (fd) (fc) (oc) (cn) i hi) wm_113 wm_114 wm_4 wm_34 wm_115 ⟨rfl, by decide, by decide, by decide +kernel⟩ rfl ⟨rfl, rfl⟩ ⟨by decide, by decide⟩ ⟨by decide, by decide⟩ hK hP hD rfl rfl rfl hl.1 rfl (Nat.le_of_ble_eq_true rfl) d_G_checkInObject_19 ?_
    obtain ⟨p, hc⟩ : ∃ p, ob i = p + 1 := ⟨ob i - 1, by omega⟩
    have hp := ho i hi
    refine nx_top (show zs_e (ob i) = nI p by rw [hc]; exact zs_s p) ?_
    refine lv_iconst (v := -1) hx hb d_G_checkInObject_22 (by decide +kernel) ?_
    refine lv_icmp_ne (tgt := 36) hx hb d_G_checkInObject_23 (by decide) (fun _ => ?_) (fun h => absurd h (zn_m1 (by omega)))
    exact hret 36 ls d_G_checkInObject_36
  · skip
    rw [(ad_i hi).1] at h4
    cases h4

set_option maxHeartbeats 4000000 in
set_option maxRecDepth 100000 in
theorem c_G_rooted_in (l : Launch) (D : va_G) (ca : Nat → ClassId) (hs : Nat → Nat) (rt : Nat → Int32) (wd : Nat → Int32) (ob : Nat → Nat) (ln : Nat → Nat) (kd : Nat → Nat) (qt : Nat → Bool) (df : Nat → Bool) (mk : Nat → Bool) (fd : Nat → Nat) (fc : Nat) (oc : Nat) (cn : Nat) (r : Nat) (hr8 : r < 8) : Met l y_G_rooted (Cond.code y_G_rooted b_G_rooted 2 (some .int) :: wa_all) (rm_d 1) (va_Pc [.ref (hs 0), .int (nI r)] (gx_I D cl_all (ty_G ca) (gw_G ca hs rt wd ob ln kd qt df mk fd fc oc cn))) (QcRead (rt r)) 0 0 (fun _ => False) := by
  refine gx_pureI (by decide) (Nat.le_of_ble_eq_true rfl) ?_
  intro p e s m args below meth c ls Q hx hb hml ht hown hret hP hK hD hl
  have hl : lv_has ls 2 [(0, .ref (hs 0)), (1, .int (nI r))] := hl
  have hown : s.vm.findClass R_G = some m.cls := hown
  refine lv_iload_n hx hb d_G_rooted_0 rfl (lv_at hl 1 rfl) ?_
  refine gx_cSv (n := 1) (own := R_G) (As := [.int (nI r)]) (rest := []) ⟨hx, hb, hml, hown, ht⟩ hg_all (c_G_checkRoot_in l r hr8) wm_302 wm_303 wm_34 wm_304 ⟨rfl, by decide, by decide, by decide +kernel⟩ rfl ⟨rfl, rfl⟩ ⟨by decide, by decide⟩ ⟨by decide, by decide⟩ hl.1 rfl (Nat.le_of_ble_eq_true rfl) d_G_rooted_1 ?_
  refine lv_aload_n hx hb d_G_rooted_4 rfl (lv_at hl 0 rfl) ?_
  refine va_get (D := D) (ci := 0) (v := .ref (hs 1)) (C := R_G) (T := F_G) (N := 12) hx hb ht in_G hown hK hP 0 rfl rfl 0 (by decide) (ht _ wm_55) (fun _ h9 => h9) rfl d_G_rooted_5 ?_
  refine lv_iload_n hx hb d_G_rooted_8 rfl (lv_at hl 1 rfl) ?_
  refine nx_rald hx hb hK hP 1 0 rt rfl rfl r (by omega) (by decide) d_G_rooted_9 ?_
  exact hret 10 ls (rt r) d_G_rooted_10 (rfl)

set_option maxHeartbeats 4000000 in
set_option maxRecDepth 100000 in
theorem c_G_read_in (l : Launch) (D : va_G) (ca : Nat → ClassId) (hs : Nat → Nat) (rt : Nat → Int32) (wd : Nat → Int32) (ob : Nat → Nat) (ln : Nat → Nat) (kd : Nat → Nat) (qt : Nat → Bool) (df : Nat → Bool) (mk : Nat → Bool) (fd : Nat → Nat) (fc : Nat) (oc : Nat) (cn : Nat) (i : Nat) (hi : i < 512) (ho : ∀ i, i < 512 → ob i < 513) (hne : ob i ≠ 0) : Met l y_G_read (Cond.code y_G_read b_G_read 2 (some .int) :: wa_all) (rm_d 3) (va_Pc [.ref (hs 0), .int (nI (4096 + i))] (gx_I D cl_all (ty_G ca) (gw_G ca hs rt wd ob ln kd qt df mk fd fc oc cn))) (QcRead (wd i)) 0 0 (fun _ => False) := by
  refine gx_pureI (by decide) (Nat.le_of_ble_eq_true rfl) ?_
  intro p e s m args below meth c ls Q hx hb hml ht hown hret hP hK hD hl
  have hl : lv_has ls 2 [(0, .ref (hs 0)), (1, .int (nI (4096 + i)))] := hl
  have hown : s.vm.findClass R_G = some m.cls := hown
  refine lv_aload_n hx hb d_G_read_0 rfl (lv_at hl 0 rfl) ?_
  refine lv_iload_n hx hb d_G_read_1 rfl (lv_at hl 1 rfl) ?_
  refine gx_cVv (n := 1) (q0 := 0) (ci := 0) (q := (R_G, F_G, 12)) (C := R_G) (own := R_G) (As := [.int (nI (4096 + i))]) (rest := []) ⟨hx, hb, hml, hown, ht⟩ hg_all (c_G_checkInObject_in l D ca hs (rt) (wd) (ob) (ln) (kd) (qt) (df) (mk) (fd) (fc) (oc) (cn) i hi ho hne) wm_330 wm_331 wm_20 wm_34 wm_332 ⟨rfl, by decide, by decide, by decide +kernel⟩ rfl ⟨rfl, rfl⟩ ⟨by decide, by decide⟩ ⟨by decide, by decide⟩ hK hP hD rfl rfl rfl hl.1 rfl (Nat.le_of_ble_eq_true rfl) d_G_read_2 ?_
  refine lv_aload_n hx hb d_G_read_5 rfl (lv_at hl 0 rfl) ?_
  refine va_get (D := D) (ci := 0) (v := .ref (hs 4)) (C := R_G) (T := F_G) (N := 12) hx hb ht in_G hown hK hP 0 rfl rfl 3 (by decide) (ht _ wm_58) (fun _ h9 => h9) rfl d_G_read_6 ?_
  refine lv_iload_n hx hb d_G_read_9 rfl (lv_at hl 1 rfl) ?_
  refine lv_sipush (v := nI 4096) hx hb d_G_read_10 (by decide +kernel) ?_
  refine nx_isub hx hb d_G_read_13 (by omega) ?_
  refine nx_top s4_e ?_
  refine nx_rald hx hb hK hP 4 3 wd rfl rfl i (by omega) (by decide) d_G_read_14 ?_
  exact hret 15 ls (wd i) d_G_read_15 (rfl)

set_option maxHeartbeats 4000000 in
set_option maxRecDepth 100000 in
theorem c_G_root_in (l : Launch) (D : va_G) (ca : Nat → ClassId) (hs : Nat → Nat) (rt : Nat → Int32) (wd : Nat → Int32) (ob : Nat → Nat) (ln : Nat → Nat) (kd : Nat → Nat) (qt : Nat → Bool) (df : Nat → Bool) (mk : Nat → Bool) (fd : Nat → Nat) (fc : Nat) (oc : Nat) (cn : Nat) (r : Nat) (hr8 : r < 8) (w : Int32) : Met l y_G_root (Cond.code y_G_root b_G_root 3 none :: wa_all) (rm_d 1) (va_Pc [.ref (hs 0), .int (nI r), .int (w)] (gx_I D cl_all (ty_G ca) (gw_G ca hs rt wd ob ln kd qt df mk fd fc oc cn))) (gx_Q D cl_all (gx_A hs 10) (gw_G ca hs rt wd ob ln kd qt df mk fd fc oc cn) (fun v w' => v = none ∧ w' = gw_G ca hs (va_up rt r w) wd ob ln kd qt df mk fd fc oc cn)) 0 0 (gx_A hs 10) := by
  refine gx_mutV (by decide) (Nat.le_of_ble_eq_true rfl) gw_G_in ?_
  intro p e s m args below meth c ls Q hx hb hml ht hown hret hP hK hD hS hl
  have hl : lv_has ls 3 [(0, .ref (hs 0)), (1, .int (nI r)), (2, .int (w))] := hl
  have hown : s.vm.findClass R_G = some m.cls := hown
  have hP : va_P D cl_all (gw_G ca hs rt wd ob ln kd qt df mk fd fc oc cn) s.heap := hP
  refine lv_iload_n hx hb d_G_root_0 rfl (lv_at hl 1 rfl) ?_
  refine gx_cSv (n := 1) (own := R_G) (As := [.int (nI r)]) (rest := []) ⟨hx, hb, hml, hown, ht⟩ hg_all (c_G_checkRoot_in l r hr8) wm_302 wm_303 wm_34 wm_304 ⟨rfl, by decide, by decide, by decide +kernel⟩ rfl ⟨rfl, rfl⟩ ⟨by decide, by decide⟩ ⟨by decide, by decide⟩ hl.1 rfl (Nat.le_of_ble_eq_true rfl) d_G_root_1 ?_
  refine lv_aload_n hx hb d_G_root_4 rfl (lv_at hl 0 rfl) ?_
  refine va_get (D := D) (ci := 0) (v := .ref (hs 1)) (C := R_G) (T := F_G) (N := 12) hx hb ht in_G hown hK hP 0 rfl rfl 0 (by decide) (ht _ wm_55) (fun _ h9 => h9) rfl d_G_root_5 ?_
  refine lv_iload_n hx hb d_G_root_8 rfl (lv_at hl 1 rfl) ?_
  refine lv_iload_n hx hb d_G_root_9 rfl (lv_at hl 2 rfl) ?_
  refine nx_rast hx hb hK hP hD hS 1 0 rt rfl rfl r (w) (by omega) (by decide) d_G_root_10 (fun H locs hP hD hS => ?_)
  have hP : va_P D cl_all (gw_G ca hs (va_up rt r (w)) wd ob ln kd qt df mk fd fc oc cn) H := hP
  have hD : va_D (gx_A hs 10) (gw_G ca hs (va_up rt r (w)) wd ob ln kd qt df mk fd fc oc cn) := hD
  refine hret 11 ls _ _ _ d_G_root_11 hP hS ?_ ?_
  · exact gw_G_adr.trans gw_G_adr.symm
  · exact ⟨rfl, rfl⟩

set_option maxHeartbeats 4000000 in
set_option maxRecDepth 100000 in
theorem c_G_write_in (l : Launch) (D : va_G) (ca : Nat → ClassId) (hs : Nat → Nat) (rt : Nat → Int32) (wd : Nat → Int32) (ob : Nat → Nat) (ln : Nat → Nat) (kd : Nat → Nat) (qt : Nat → Bool) (df : Nat → Bool) (mk : Nat → Bool) (fd : Nat → Nat) (fc : Nat) (oc : Nat) (cn : Nat) (i : Nat) (hi : i < 512) (ho : ∀ i, i < 512 → ob i < 513) (hne : ob i ≠ 0) (w : Int32) : Met l y_G_write (Cond.code y_G_write b_G_write 4 (some .int) :: wa_all) (rm_d 3) (va_Pc [.ref (hs 0), .int (nI (4096 + i)), .int (w)] (gx_I D cl_all (ty_G ca) (gw_G ca hs rt wd ob ln kd qt df mk fd fc oc cn))) (gx_Q D cl_all (gx_A hs 10) (gw_G ca hs rt wd ob ln kd qt df mk fd fc oc cn) (fun v w' => v = some (.int (wd i)) ∧ w' = gw_G ca hs rt (va_up wd i w) ob ln kd qt df mk fd fc oc cn)) 0 0 (gx_A hs 10) := by
  refine gx_mutI (by decide) (Nat.le_of_ble_eq_true rfl) gw_G_in ?_
  intro p e s m args below meth c ls Q hx hb hml ht hown hret hP hK hD hS hl
  have hl : lv_has ls 4 [(0, .ref (hs 0)), (1, .int (nI (4096 + i))), (2, .int (w))] := hl
  have hown : s.vm.findClass R_G = some m.cls := hown
  have hP : va_P D cl_all (gw_G ca hs rt wd ob ln kd qt df mk fd fc oc cn) s.heap := hP
  refine lv_aload_n hx hb d_G_write_0 rfl (lv_at hl 0 rfl) ?_
  refine lv_iload_n hx hb d_G_write_1 rfl (lv_at hl 1 rfl) ?_
  refine gx_cVv (n := 1) (q0 := 0) (ci := 0) (q := (R_G, F_G, 12)) (C := R_G) (own := R_G) (As := [.int (nI (4096 + i))]) (rest := []) ⟨hx, hb, hml, hown, ht⟩ hg_all (c_G_checkInObject_in l D ca hs (rt) (wd) (ob) (ln) (kd) (qt) (df) (mk) (fd) (fc) (oc) (cn) i hi ho hne) wm_330 wm_331 wm_20 wm_34 wm_332 ⟨rfl, by decide, by decide, by decide +kernel⟩ rfl ⟨rfl, rfl⟩ ⟨by decide, by decide⟩ ⟨by decide, by decide⟩ hK hP hD rfl rfl rfl hl.1 rfl (Nat.le_of_ble_eq_true rfl) d_G_write_2 ?_
  refine lv_aload_n hx hb d_G_write_5 rfl (lv_at hl 0 rfl) ?_
  refine va_get (D := D) (ci := 0) (v := .ref (hs 4)) (C := R_G) (T := F_G) (N := 12) hx hb ht in_G hown hK hP 0 rfl rfl 3 (by decide) (ht _ wm_58) (fun _ h9 => h9) rfl d_G_write_6 ?_
  refine lv_iload_n hx hb d_G_write_9 rfl (lv_at hl 1 rfl) ?_
  refine lv_sipush (v := nI 4096) hx hb d_G_write_10 (by decide +kernel) ?_
  refine nx_isub hx hb d_G_write_13 (by omega) ?_
  refine nx_top s4_e ?_
  refine nx_rald hx hb hK hP 4 3 wd rfl rfl i (by omega) (by decide) d_G_write_14 ?_
  refine lv_istore_n (lv' := [(3, .int (wd i)), (0, .ref (hs 0)), (1, .int (nI (4096 + i))), (2, .int (w))]) hx hb d_G_write_15 rfl hl (by decide) rfl (fun ls hl => ?_)
  refine lv_aload_n hx hb d_G_write_16 rfl (lv_at hl 1 rfl) ?_
  refine va_get (D := D) (ci := 0) (v := .ref (hs 4)) (C := R_G) (T := F_G) (N := 12) hx hb ht in_G hown hK hP 0 rfl rfl 3 (by decide) (ht _ wm_58) (fun _ h9 => h9) rfl d_G_write_17 ?_
  refine lv_iload_n hx hb d_G_write_20 rfl (lv_at hl 2 rfl) ?_
  refine lv_sipush (v := nI 4096) hx hb d_G_write_21 (by decide +kernel) ?_
  refine nx_isub hx hb d_G_write_24 (by omega) ?_
  refine nx_top s4_e ?_
  refine lv_iload_n hx hb d_G_write_25 rfl (lv_at hl 3 rfl) ?_
  refine nx_rast hx hb hK hP hD hS 4 3 wd rfl rfl i (w) (by omega) (by decide) d_G_write_26 (fun H locs hP hD hS => ?_)
  have hP : va_P D cl_all (gw_G ca hs rt (va_up wd i (w)) ob ln kd qt df mk fd fc oc cn) H := hP
  have hD : va_D (gx_A hs 10) (gw_G ca hs rt (va_up wd i (w)) ob ln kd qt df mk fd fc oc cn) := hD
  refine lv_iload_n hx hb d_G_write_27 rfl (lv_at hl 0 rfl) ?_
  refine hret 28 ls (wd i) _ _ _ d_G_write_28 hP hS ?_ ?_
  · exact gw_G_adr.trans gw_G_adr.symm
  · exact ⟨rfl, rfl⟩

set_option maxHeartbeats 4000000 in
set_option maxRecDepth 100000 in
theorem c_G_takeBlock (l : Launch) (D : va_G) (ca : Nat → ClassId) (hs : Nat → Nat) (rt : Nat → Int32) (wd : Nat → Int32) (ob : Nat → Nat) (ln : Nat → Nat) (kd : Nat → Nat) (qt : Nat → Bool) (df : Nat → Bool) (mk : Nat → Bool) (fd : Nat → Nat) (fc : Nat) (oc : Nat) (cn : Nat) (b : Nat) (hb16 : b < 16) (k : Nat) : Met l y_G_takeBlock (Cond.code y_G_takeBlock b_G_takeBlock 3 none :: wa_all) (rm_d 0) (va_Pc [.ref (hs 0), .int (nI b), .int (nI k)] (gx_I D cl_all (ty_G ca) (gw_G ca hs rt wd ob ln kd qt df mk fd fc oc cn))) (gx_Q D cl_all (gx_A hs 10) (gw_G ca hs rt wd ob ln kd qt df mk fd fc oc cn) (fun v w' => v = none ∧ w' = gw_G ca hs rt wd ob ln (va_up kd b k) qt (va_up df b false) mk fd fc oc cn)) 0 0 (gx_A hs 10) := by
  refine gx_mutV (by decide) (Nat.le_of_ble_eq_true rfl) gw_G_in ?_
  intro p e s m args below meth c ls Q hx hb hml ht hown hret hP hK hD hS hl
  have hl : lv_has ls 3 [(0, .ref (hs 0)), (1, .int (nI b)), (2, .int (nI k))] := hl
  have hown : s.vm.findClass R_G = some m.cls := hown
  have hP : va_P D cl_all (gw_G ca hs rt wd ob ln kd qt df mk fd fc oc cn) s.heap := hP
  refine lv_aload_n hx hb d_G_takeBlock_0 rfl (lv_at hl 0 rfl) ?_
  refine va_get (D := D) (ci := 0) (v := .ref (hs 2)) (C := R_G) (T := F_G) (N := 12) hx hb ht in_G hown hK hP 0 rfl rfl 1 (by decide) (ht _ wm_56) (fun _ h9 => h9) rfl d_G_takeBlock_1 ?_
  refine lv_iload_n hx hb d_G_takeBlock_4 rfl (lv_at hl 1 rfl) ?_
  refine lv_iload_n hx hb d_G_takeBlock_5 rfl (lv_at hl 2 rfl) ?_
  refine nx_iast hx hb hK hP hD hS 2 1 nI kd rfl rfl b k (by omega) (by decide) d_G_takeBlock_6 (fun H locs hP hD hS => ?_)
  have hP : va_P D cl_all (gw_G ca hs rt wd ob ln (va_up kd b k) qt df mk fd fc oc cn) H := hP
  have hD : va_D (gx_A hs 10) (gw_G ca hs rt wd ob ln (va_up kd b k) qt df mk fd fc oc cn) := hD
  refine lv_aload_n hx hb d_G_takeBlock_7 rfl (lv_at hl 0 rfl) ?_
  refine va_get (D := D) (ci := 0) (v := .ref (hs 3)) (C := R_G) (T := F_G) (N := 12) hx hb ht in_G hown hK hP 0 rfl rfl 2 (by decide) (ht _ wm_57) (fun _ h9 => h9) rfl d_G_takeBlock_8 ?_
  refine lv_iload_n hx hb d_G_takeBlock_11 rfl (lv_at hl 1 rfl) ?_
  refine lv_iconst (v := zb_e false) hx hb d_G_takeBlock_12 (by decide +kernel) ?_
  refine nx_zast hx hb hK hP hD hS 3 2 df rfl rfl b false (by omega) (by decide) d_G_takeBlock_13 (fun H locs hP hD hS => ?_)
  have hP : va_P D cl_all (gw_G ca hs rt wd ob ln (va_up kd b k) qt (va_up df b false) mk fd fc oc cn) H := hP
  have hD : va_D (gx_A hs 10) (gw_G ca hs rt wd ob ln (va_up kd b k) qt (va_up df b false) mk fd fc oc cn) := hD
  refine hret 14 ls _ _ _ d_G_takeBlock_14 hP hS ?_ ?_
  · exact gw_G_adr.trans gw_G_adr.symm
  · exact ⟨rfl, rfl⟩

