/-! the class: what reads -/
theorem ad_t {w : Int32} (h1 : ¬ w < nI 4096) (h2 : ¬ nI 4608 ≤ w) : ad_b w = true := by
  rw [Int32.lt_iff_toInt_lt, nI_toInt (by omega)] at h1
  rw [Int32.le_iff_toInt_le, nI_toInt (by omega)] at h2
  exact decide_eq_true ⟨by omega, by omega⟩
theorem ad_f1 {w : Int32} (h : w < nI 4096) : ad_b w = false := by
  rw [Int32.lt_iff_toInt_lt, nI_toInt (by omega)] at h
  exact decide_eq_false (fun q => by omega)
theorem ad_f2 {w : Int32} (h : nI 4608 ≤ w) : ad_b w = false := by
  rw [Int32.le_iff_toInt_le, nI_toInt (by omega)] at h
  exact decide_eq_false (fun q => by omega)
def bk_b (w : Int32) : Bool := decide (0 ≤ w.toInt ∧ w.toInt < 16)
theorem bk_t {w : Int32} (h1 : ¬ w < 0) (h2 : ¬ nI 16 ≤ w) : bk_b w = true := by
  rw [Int32.lt_iff_toInt_lt, Int32.toInt_zero] at h1
  rw [Int32.le_iff_toInt_le, nI_toInt (by omega)] at h2
  exact decide_eq_true ⟨by omega, by omega⟩
theorem bk_f1 {w : Int32} (h : w < 0) : bk_b w = false := by
  rw [Int32.lt_iff_toInt_lt, Int32.toInt_zero] at h
  exact decide_eq_false (fun q => by omega)
theorem bk_f2 {w : Int32} (h : nI 16 ≤ w) : bk_b w = false := by
  rw [Int32.le_iff_toInt_le, nI_toInt (by omega)] at h
  exact decide_eq_false (fun q => by omega)
theorem bk_i {b : Nat} (h : b < 16) : bk_b (nI b) = true := by
  unfold bk_b
  rw [nI_toInt (by omega)]
  exact decide_eq_true (by omega)
theorem bk_l {w : Int32} (h : bk_b w = true) : ∃ b, b < 16 ∧ w = nI b := by
  have h1 : 0 ≤ w.toInt ∧ w.toInt < 16 := of_decide_eq_true h
  refine ⟨w.toInt.toNat, by omega, Int32.toInt_inj.mp ?_⟩
  rw [nI_toInt (by omega)]
  omega
theorem oa_i (ob : Nat → Nat) {i : Nat} (h : i < 512) : oa_n ob (nI (4096 + i)) = ob i := by
  unfold oa_n
  rw [(ad_i h).1, (ad_i h).2]
  rfl
theorem oa_f {ob : Nat → Nat} {w : Int32} (h : ad_b w = false) : oa_n ob w = 0 := by
  unfold oa_n
  rw [h]
  rfl
set_option maxHeartbeats 4000000 in
set_option maxRecDepth 100000 in
theorem c_G_isAddress (l : Launch) (w : Int32) : Met l y_G_isAddress (Cond.code y_G_isAddress b_G_isAddress 1 (some .boolean) :: wa_all) (rm_d 0) (fun v _ => v = ([.int (w)] : List Value).toArray) (QcRead (zb_e (ad_b w))) 0 0 (fun _ => False) := by
  refine gx_statZ (by decide) (Nat.le_of_ble_eq_true rfl) ?_
  intro p e s m args below meth c ls Q hx hb hml ht hown hret hl
  have hl : lv_has ls 1 [(0, .int (w))] := hl
  have hown : s.vm.findClass R_G = some m.cls := hown
  refine lv_iload_n hx hb d_G_isAddress_0 rfl (lv_at hl 0 rfl) ?_
  refine lv_sipush (v := nI 4096) hx hb d_G_isAddress_1 (by decide +kernel) ?_
  refine lv_icmp_lt (tgt := 18) hx hb d_G_isAddress_4 (by decide) (fun h4 => ?_) (fun h4 => ?_)
  · skip
    refine lv_iconst (v := zb_e false) hx hb d_G_isAddress_18 (by decide +kernel) ?_
    exact hret 19 ls (false) d_G_isAddress_19 (by rw [ad_f1 h4])
  · skip
    refine lv_iload_n hx hb d_G_isAddress_7 rfl (lv_at hl 0 rfl) ?_
    refine lv_sipush (v := nI 4608) hx hb d_G_isAddress_8 (by decide +kernel) ?_
    refine lv_icmp_ge (tgt := 18) hx hb d_G_isAddress_11 (by decide) (fun h11 => ?_) (fun h11 => ?_)
    · skip
      refine lv_iconst (v := zb_e false) hx hb d_G_isAddress_18 (by decide +kernel) ?_
      exact hret 19 ls (false) d_G_isAddress_19 (by rw [ad_f2 h11])
    · skip
      refine lv_iconst (v := zb_e true) hx hb d_G_isAddress_14 (by decide +kernel) ?_
      refine lv_goto (tgt := 19) hx hb d_G_isAddress_15 (by decide) ?_
      exact hret 19 ls (true) d_G_isAddress_19 (by rw [ad_t h4 h11])

set_option maxHeartbeats 4000000 in
set_option maxRecDepth 100000 in
theorem c_G_isBlock (l : Launch) (w : Int32) : Met l y_G_isBlock (Cond.code y_G_isBlock b_G_isBlock 1 (some .boolean) :: wa_all) (rm_d 0) (fun v _ => v = ([.int (w)] : List Value).toArray) (QcRead (zb_e (bk_b w))) 0 0 (fun _ => False) := by
  refine gx_statZ (by decide) (Nat.le_of_ble_eq_true rfl) ?_
  intro p e s m args below meth c ls Q hx hb hml ht hown hret hl
  have hl : lv_has ls 1 [(0, .int (w))] := hl
  have hown : s.vm.findClass R_G = some m.cls := hown
  refine lv_iload_n hx hb d_G_isBlock_0 rfl (lv_at hl 0 rfl) ?_
  refine lv_if_lt (tgt := 14) hx hb d_G_isBlock_1 (by decide) (fun h1 => ?_) (fun h1 => ?_)
  · skip
    refine lv_iconst (v := zb_e false) hx hb d_G_isBlock_14 (by decide +kernel) ?_
    exact hret 15 ls (false) d_G_isBlock_15 (by rw [bk_f1 h1])
  · skip
    refine lv_iload_n hx hb d_G_isBlock_4 rfl (lv_at hl 0 rfl) ?_
    refine lv_bipush (v := nI 16) hx hb d_G_isBlock_5 (by decide +kernel) ?_
    refine lv_icmp_ge (tgt := 14) hx hb d_G_isBlock_7 (by decide) (fun h7 => ?_) (fun h7 => ?_)
    · skip
      refine lv_iconst (v := zb_e false) hx hb d_G_isBlock_14 (by decide +kernel) ?_
      exact hret 15 ls (false) d_G_isBlock_15 (by rw [bk_f2 h7])
    · skip
      refine lv_iconst (v := zb_e true) hx hb d_G_isBlock_10 (by decide +kernel) ?_
      refine lv_goto (tgt := 15) hx hb d_G_isBlock_11 (by decide) ?_
      exact hret 15 ls (true) d_G_isBlock_15 (by rw [bk_t h1 h7])

set_option maxHeartbeats 4000000 in
set_option maxRecDepth 100000 in
theorem c_G_startAt_in (l : Launch) (D : va_G) (ca : Nat → ClassId) (hs : Nat → Nat) (rt : Nat → Int32) (wd : Nat → Int32) (ob : Nat → Nat) (ln : Nat → Nat) (kd : Nat → Nat) (qt : Nat → Bool) (df : Nat → Bool) (mk : Nat → Bool) (fd : Nat → Nat) (fc : Nat) (oc : Nat) (cn : Nat) (i : Nat) (hi : i < 512) : Met l y_G_startAt (Cond.code y_G_startAt b_G_startAt 2 (some .int) :: wa_all) (rm_d 1) (va_Pc [.ref (hs 0), .int (nI (4096 + i))] (gx_I D cl_all (ty_G ca) (gw_G ca hs rt wd ob ln kd qt df mk fd fc oc cn))) (QcRead (zs_e (ob i))) 0 0 (fun _ => False) := by
  refine gx_pureI (by decide) (Nat.le_of_ble_eq_true rfl) ?_
  intro p e s m args below meth c ls Q hx hb hml ht hown hret hP hK hD hl
  have hl : lv_has ls 2 [(0, .ref (hs 0)), (1, .int (nI (4096 + i)))] := hl
  have hown : s.vm.findClass R_G = some m.cls := hown
  refine lv_iload_n hx hb d_G_startAt_0 rfl (lv_at hl 1 rfl) ?_
  refine gx_cS (n := 1) (own := R_G) (As := [.int (nI (4096 + i))]) (rest := []) ⟨hx, hb, hml, hown, ht⟩ hg_all (c_G_isAddress l (nI (4096 + i))) wm_110 wm_111 wm_34 wm_112 ⟨rfl, by decide, by decide, by decide +kernel⟩ rfl ⟨rfl, rfl⟩ ⟨by decide, by decide⟩ ⟨by decide, by decide⟩ hl.1 rfl (Nat.le_of_ble_eq_true rfl) d_G_startAt_1 ?_
  refine nx_if_eq_b (tgt := 20) hx hb d_G_startAt_4 (by decide) (fun h4 => ?_) (fun h4 => ?_)
  · skip
    rw [(ad_i hi).1] at h4
    cases h4
  · skip
    refine lv_aload_n hx hb d_G_startAt_7 rfl (lv_at hl 0 rfl) ?_
    refine va_get (D := D) (ci := 0) (v := .ref (hs 5)) (C := R_G) (T := F_G) (N := 12) hx hb ht in_G hown hK hP 0 rfl rfl 4 (by decide) (ht _ wm_59) (fun _ h9 => h9) rfl d_G_startAt_8 ?_
    refine lv_iload_n hx hb d_G_startAt_11 rfl (lv_at hl 1 rfl) ?_
    refine lv_sipush (v := nI 4096) hx hb d_G_startAt_12 (by decide +kernel) ?_
    refine nx_isub hx hb d_G_startAt_15 (by omega) ?_
    refine nx_top (show nI (4096 + i - 4096) = nI i by rw [Nat.add_sub_cancel_left]) ?_
    refine nx_iald hx hb hK hP 5 4 zs_e ob rfl rfl i (by omega) (by decide) d_G_startAt_16 ?_
    refine lv_goto (tgt := 21) hx hb d_G_startAt_17 (by decide) ?_
    exact hret 21 ls (zs_e (ob i)) d_G_startAt_21 (rfl)

set_option maxHeartbeats 4000000 in
set_option maxRecDepth 100000 in
theorem c_G_startAt_out (l : Launch) (D : va_G) (ca : Nat → ClassId) (hs : Nat → Nat) (rt : Nat → Int32) (wd : Nat → Int32) (ob : Nat → Nat) (ln : Nat → Nat) (kd : Nat → Nat) (qt : Nat → Bool) (df : Nat → Bool) (mk : Nat → Bool) (fd : Nat → Nat) (fc : Nat) (oc : Nat) (cn : Nat) (w : Int32) (hw : ad_b w = false) : Met l y_G_startAt (Cond.code y_G_startAt b_G_startAt 2 (some .int) :: wa_all) (rm_d 1) (va_Pc [.ref (hs 0), .int (w)] (gx_I D cl_all (ty_G ca) (gw_G ca hs rt wd ob ln kd qt df mk fd fc oc cn))) (QcRead (-1)) 0 0 (fun _ => False) := by
  refine gx_pureI (by decide) (Nat.le_of_ble_eq_true rfl) ?_
  intro p e s m args below meth c ls Q hx hb hml ht hown hret hP hK hD hl
  have hl : lv_has ls 2 [(0, .ref (hs 0)), (1, .int (w))] := hl
  have hown : s.vm.findClass R_G = some m.cls := hown
  refine lv_iload_n hx hb d_G_startAt_0 rfl (lv_at hl 1 rfl) ?_
  refine gx_cS (n := 1) (own := R_G) (As := [.int (w)]) (rest := []) ⟨hx, hb, hml, hown, ht⟩ hg_all (c_G_isAddress l (w)) wm_110 wm_111 wm_34 wm_112 ⟨rfl, by decide, by decide, by decide +kernel⟩ rfl ⟨rfl, rfl⟩ ⟨by decide, by decide⟩ ⟨by decide, by decide⟩ hl.1 rfl (Nat.le_of_ble_eq_true rfl) d_G_startAt_1 ?_
  refine nx_if_eq_b (tgt := 20) hx hb d_G_startAt_4 (by decide) (fun h4 => ?_) (fun h4 => ?_)
  · skip
    refine lv_iconst (v := -1) hx hb d_G_startAt_20 (by decide +kernel) ?_
    exact hret 21 ls (-1) d_G_startAt_21 (rfl)
  · skip
    rw [hw] at h4
    cases h4

