/-! the reference: what reads -/
theorem zs_d (n : Nat) : nI n - nI 1 = zs_e n := by
  unfold zs_e
  rw [show nI 1 = 1 from by decide +kernel]
theorem rn_1 {kd : Nat → Nat} {df : Nat → Bool} {f : Bool} {b : Nat} (hb : b < 16) : rn_b kd df f 1 b = us_b kd df f b := by
  unfold rn_b
  cases hu : us_b kd df f b with
  | true => exact cl_t.mpr ⟨by omega, fun j hj => by rw [show b + j = b by omega]; exact hu⟩
  | false => exact cl_f.mpr (fun q => by have := q.2 0 (by omega); rw [Nat.add_zero, hu] at this; cases this)
theorem cl_s {p : Nat → Prop} {j : Nat} {b : Bool} (h : b = cl_b (∀ t, t < j → p t)) {c : Bool} (hc : c = true ↔ p j) : (b && c) = cl_b (∀ t, t < j + 1 → p t) := by
  subst h
  cases hb : cl_b (∀ t, t < j → p t) with
  | false =>
    refine (cl_f.mpr (fun q => ?_)).symm
    exact cl_f.mp hb (fun t ht => q t (by omega))
  | true =>
    have h1 := cl_t.mp hb
    cases hcc : c with
    | false =>
      refine (cl_f.mpr (fun q => ?_)).symm
      have := hc.mpr (q j (by omega))
      rw [hcc] at this
      cases this
    | true => exact (cl_t.mpr (lt_s h1 (hc.mp hcc))).symm
set_option maxHeartbeats 4000000 in
set_option maxRecDepth 100000 in
theorem c_M_isAddress (l : Launch) (w : Int32) : Met l y_M_isAddress (Cond.code y_M_isAddress b_M_isAddress 1 (some .boolean) :: wa_all) (rm_d 0) (fun v _ => v = ([.int (w)] : List Value).toArray) (QcRead (zb_e (ad_b w))) 0 0 (fun _ => False) := by
  refine gx_statZ (by decide) (Nat.le_of_ble_eq_true rfl) ?_
  intro p e s m args below meth c ls Q hx hb hml ht hown hret hl
  have hl : lv_has ls 1 [(0, .int (w))] := hl
  have hown : s.vm.findClass R_M = some m.cls := hown
  refine lv_iload_n hx hb d_M_isAddress_0 rfl (lv_at hl 0 rfl) ?_
  refine lv_sipush (v := nI 4096) hx hb d_M_isAddress_1 (by decide +kernel) ?_
  refine lv_icmp_lt (tgt := 18) hx hb d_M_isAddress_4 (by decide) (fun h4 => ?_) (fun h4 => ?_)
  · skip
    refine lv_iconst (v := zb_e false) hx hb d_M_isAddress_18 (by decide +kernel) ?_
    exact hret 19 ls (false) d_M_isAddress_19 (by rw [ad_f1 h4])
  · skip
    refine lv_iload_n hx hb d_M_isAddress_7 rfl (lv_at hl 0 rfl) ?_
    refine lv_sipush (v := nI 4608) hx hb d_M_isAddress_8 (by decide +kernel) ?_
    refine lv_icmp_ge (tgt := 18) hx hb d_M_isAddress_11 (by decide) (fun h11 => ?_) (fun h11 => ?_)
    · skip
      refine lv_iconst (v := zb_e false) hx hb d_M_isAddress_18 (by decide +kernel) ?_
      exact hret 19 ls (false) d_M_isAddress_19 (by rw [ad_f2 h11])
    · skip
      refine lv_iconst (v := zb_e true) hx hb d_M_isAddress_14 (by decide +kernel) ?_
      refine lv_goto (tgt := 19) hx hb d_M_isAddress_15 (by decide) ?_
      exact hret 19 ls (true) d_M_isAddress_19 (by rw [ad_t h4 h11])

set_option maxHeartbeats 4000000 in
set_option maxRecDepth 100000 in
theorem c_M_objectAt_in (l : Launch) (D : va_G) (ca : Nat → ClassId) (hs : Nat → Nat) (rt : Nat → Int32) (wd : Nat → Int32) (ob : Nat → Nat) (ln : Nat → Nat) (kd : Nat → Nat) (qt : Nat → Bool) (df : Nat → Bool) (mk : Nat → Bool) (th : Nat) (cn : Nat) (gv : Nat) (i : Nat) (hi : i < 512) : Met l y_M_objectAt (Cond.code y_M_objectAt b_M_objectAt 2 (some .int) :: wa_all) (rm_d 1) (va_Pc [.ref (hs 0), .int (nI (4096 + i))] (gx_I D cl_all (ty_M ca) (gw_M ca hs rt wd ob ln kd qt df mk th cn gv))) (QcRead (zs_e (ob i))) 0 0 (fun _ => False) := by
  refine gx_pureI (by decide) (Nat.le_of_ble_eq_true rfl) ?_
  intro p e s m args below meth c ls Q hx hb hml ht hown hret hP hK hD hl
  have hl : lv_has ls 2 [(0, .ref (hs 0)), (1, .int (nI (4096 + i)))] := hl
  have hown : s.vm.findClass R_M = some m.cls := hown
  refine lv_iload_n hx hb d_M_objectAt_0 rfl (lv_at hl 1 rfl) ?_
  refine gx_cS (n := 1) (own := R_M) (As := [.int (nI (4096 + i))]) (rest := []) ⟨hx, hb, hml, hown, ht⟩ hg_all (c_M_isAddress l (nI (4096 + i))) wm_412 wm_413 wm_36 wm_414 ⟨rfl, by decide, by decide, by decide +kernel⟩ rfl ⟨rfl, rfl⟩ ⟨by decide, by decide⟩ ⟨by decide, by decide⟩ hl.1 rfl (Nat.le_of_ble_eq_true rfl) d_M_objectAt_1 ?_
  refine nx_if_eq_b (tgt := 22) hx hb d_M_objectAt_4 (by decide) (fun h4 => ?_) (fun h4 => ?_)
  · skip
    rw [(ad_i hi).1] at h4
    cases h4
  · skip
    refine lv_aload_n hx hb d_M_objectAt_7 rfl (lv_at hl 0 rfl) ?_
    refine va_get (D := D) (ci := 1) (v := .ref (hs 3)) (C := R_M) (T := F_M) (N := 11) hx hb ht in_M hown hK hP 0 rfl rfl 3 (by decide) (ht _ wm_349) (fun _ h9 => h9) rfl d_M_objectAt_8 ?_
    refine lv_iload_n hx hb d_M_objectAt_11 rfl (lv_at hl 1 rfl) ?_
    refine lv_sipush (v := nI 4096) hx hb d_M_objectAt_12 (by decide +kernel) ?_
    refine nx_isub hx hb d_M_objectAt_15 (by omega) ?_
    refine nx_top s4_e ?_
    refine nx_iald hx hb hK hP 3 2 nI ob rfl rfl i (by omega) (by decide) d_M_objectAt_16 ?_
    refine lv_iconst (v := nI 1) hx hb d_M_objectAt_17 (by decide +kernel) ?_
    refine lv_isub hx hb d_M_objectAt_18 ?_
    refine nx_top (zs_d (ob i)) ?_
    refine lv_goto (tgt := 23) hx hb d_M_objectAt_19 (by decide) ?_
    exact hret 23 ls (zs_e (ob i)) d_M_objectAt_23 (rfl)

set_option maxHeartbeats 4000000 in
set_option maxRecDepth 100000 in
theorem c_M_objectAt_out (l : Launch) (D : va_G) (ca : Nat → ClassId) (hs : Nat → Nat) (rt : Nat → Int32) (wd : Nat → Int32) (ob : Nat → Nat) (ln : Nat → Nat) (kd : Nat → Nat) (qt : Nat → Bool) (df : Nat → Bool) (mk : Nat → Bool) (th : Nat) (cn : Nat) (gv : Nat) (w : Int32) (hw : ad_b w = false) : Met l y_M_objectAt (Cond.code y_M_objectAt b_M_objectAt 2 (some .int) :: wa_all) (rm_d 1) (va_Pc [.ref (hs 0), .int (w)] (gx_I D cl_all (ty_M ca) (gw_M ca hs rt wd ob ln kd qt df mk th cn gv))) (QcRead (-1)) 0 0 (fun _ => False) := by
  refine gx_pureI (by decide) (Nat.le_of_ble_eq_true rfl) ?_
  intro p e s m args below meth c ls Q hx hb hml ht hown hret hP hK hD hl
  have hl : lv_has ls 2 [(0, .ref (hs 0)), (1, .int (w))] := hl
  have hown : s.vm.findClass R_M = some m.cls := hown
  refine lv_iload_n hx hb d_M_objectAt_0 rfl (lv_at hl 1 rfl) ?_
  refine gx_cS (n := 1) (own := R_M) (As := [.int (w)]) (rest := []) ⟨hx, hb, hml, hown, ht⟩ hg_all (c_M_isAddress l (w)) wm_412 wm_413 wm_36 wm_414 ⟨rfl, by decide, by decide, by decide +kernel⟩ rfl ⟨rfl, rfl⟩ ⟨by decide, by decide⟩ ⟨by decide, by decide⟩ hl.1 rfl (Nat.le_of_ble_eq_true rfl) d_M_objectAt_1 ?_
  refine nx_if_eq_b (tgt := 22) hx hb d_M_objectAt_4 (by decide) (fun h4 => ?_) (fun h4 => ?_)
  · skip
    refine lv_iconst (v := -1) hx hb d_M_objectAt_22 (by decide +kernel) ?_
    exact hret 23 ls (-1) d_M_objectAt_23 (rfl)
  · skip
    rw [hw] at h4
    cases h4

set_option maxHeartbeats 4000000 in
set_option maxRecDepth 100000 in
theorem c_M_isOpen (l : Launch) (D : va_G) (ca : Nat → ClassId) (hs : Nat → Nat) (rt : Nat → Int32) (wd : Nat → Int32) (ob : Nat → Nat) (ln : Nat → Nat) (kd : Nat → Nat) (qt : Nat → Bool) (df : Nat → Bool) (mk : Nat → Bool) (th : Nat) (cn : Nat) (gv : Nat) (b : Nat) (hb16 : b < 16) (f : Bool) (hk : ∀ b, b < 16 → kd b < 34) : Met l y_M_isOpen (Cond.code y_M_isOpen b_M_isOpen 3 (some .boolean) :: wa_all) (rm_d 0) (va_Pc [.ref (hs 0), .int (nI b), .int (zb_e f)] (gx_I D cl_all (ty_M ca) (gw_M ca hs rt wd ob ln kd qt df mk th cn gv))) (QcRead (zb_e (us_b kd df f b))) 0 0 (fun _ => False) := by
  refine gx_pureZ (by decide) (Nat.le_of_ble_eq_true rfl) ?_
  intro p e s m args below meth c ls Q hx hb hml ht hown hret hP hK hD hl
  have hl : lv_has ls 3 [(0, .ref (hs 0)), (1, .int (nI b)), (2, .int (zb_e f))] := hl
  have hown : s.vm.findClass R_M = some m.cls := hown
  have hkb := hk b hb16
  refine lv_iload_n hx hb d_M_isOpen_0 rfl (lv_at hl 1 rfl) ?_
  refine lv_bipush (v := nI 16) hx hb d_M_isOpen_1 (by decide +kernel) ?_
  refine nx_icmp_ge (tgt := 32) hx hb d_M_isOpen_3 (by decide) (by omega) (by omega) (fun h3 => ?_) (fun h3 => ?_)
  · skip
    omega
  · skip
    refine lv_aload_n hx hb d_M_isOpen_6 rfl (lv_at hl 0 rfl) ?_
    refine va_get (D := D) (ci := 1) (v := .ref (hs 7)) (C := R_M) (T := F_M) (N := 11) hx hb ht in_M hown hK hP 0 rfl rfl 7 (by decide) (ht _ wm_353) (fun _ h9 => h9) rfl d_M_isOpen_7 ?_
    refine lv_iload_n hx hb d_M_isOpen_10 rfl (lv_at hl 1 rfl) ?_
    refine nx_iald hx hb hK hP 7 6 nI kd rfl rfl b (by omega) (by decide) d_M_isOpen_11 ?_
    refine nx_if_ne (tgt := 32) hx hb d_M_isOpen_12 (by decide) (by omega) (fun h12 => ?_) (fun h12 => ?_)
    · skip
      refine lv_iconst (v := zb_e false) hx hb d_M_isOpen_32 (by decide +kernel) ?_
      exact hret 33 ls (false) d_M_isOpen_33 (by rw [us_f1 h12])
    · skip
      refine lv_iload_n hx hb d_M_isOpen_15 rfl (lv_at hl 2 rfl) ?_
      refine nx_if_ne_b (tgt := 28) hx hb d_M_isOpen_16 (by decide) (fun h16 => ?_) (fun h16 => ?_)
      · skip
        refine lv_iconst (v := zb_e true) hx hb d_M_isOpen_28 (by decide +kernel) ?_
        refine lv_goto (tgt := 33) hx hb d_M_isOpen_29 (by decide) ?_
        exact hret 33 ls (true) d_M_isOpen_33 (by rw [us_t.mpr ⟨h12, Or.inl h16⟩])
      · skip
        refine lv_aload_n hx hb d_M_isOpen_19 rfl (lv_at hl 0 rfl) ?_
        refine va_get (D := D) (ci := 1) (v := .ref (hs 8)) (C := R_M) (T := F_M) (N := 11) hx hb ht in_M hown hK hP 0 rfl rfl 8 (by decide) (ht _ wm_354) (fun _ h9 => h9) rfl d_M_isOpen_20 ?_
        refine lv_iload_n hx hb d_M_isOpen_23 rfl (lv_at hl 1 rfl) ?_
        refine nx_zald hx hb hK hP 8 7 zb_e df rfl rfl b (by omega) (by decide) d_M_isOpen_24 ?_
        refine nx_if_ne_b (tgt := 32) hx hb d_M_isOpen_25 (by decide) (fun h25 => ?_) (fun h25 => ?_)
        · skip
          refine lv_iconst (v := zb_e false) hx hb d_M_isOpen_32 (by decide +kernel) ?_
          exact hret 33 ls (false) d_M_isOpen_33 (by rw [us_f2 h16 h25])
        · skip
          refine lv_iconst (v := zb_e true) hx hb d_M_isOpen_28 (by decide +kernel) ?_
          refine lv_goto (tgt := 33) hx hb d_M_isOpen_29 (by decide) ?_
          exact hret 33 ls (true) d_M_isOpen_33 (by rw [us_t.mpr ⟨h12, Or.inr h25⟩])

set_option maxHeartbeats 4000000 in
set_option maxRecDepth 100000 in
theorem c_M_sizeFor (l : Launch) (n : Nat) (hn : n ≤ 128) : Met l y_M_sizeFor (Cond.code y_M_sizeFor b_M_sizeFor 1 (some .int) :: wa_all) (rm_d 0) (fun v _ => v = ([.int (nI n)] : List Value).toArray) (QcRead (nI (sz_f n))) 0 0 (fun _ => False) := by
  refine gx_statI (by decide) (Nat.le_of_ble_eq_true rfl) ?_
  intro p e s m args below meth c ls Q hx hb hml ht hown hret hl
  have hl : lv_has ls 1 [(0, .int (nI n))] := hl
  have hown : s.vm.findClass R_M = some m.cls := hown
  refine lv_iload_n hx hb d_M_sizeFor_0 rfl (lv_at hl 0 rfl) ?_
  refine lv_iconst (v := nI 2) hx hb d_M_sizeFor_1 (by decide +kernel) ?_
  refine nx_icmp_gt (tgt := 9) hx hb d_M_sizeFor_2 (by decide) (by omega) (by omega) (fun h2 => ?_) (fun h2 => ?_)
  · skip
    refine lv_iload_n hx hb d_M_sizeFor_9 rfl (lv_at hl 0 rfl) ?_
    refine lv_iconst (v := nI 4) hx hb d_M_sizeFor_10 (by decide +kernel) ?_
    refine nx_icmp_gt (tgt := 18) hx hb d_M_sizeFor_11 (by decide) (by omega) (by omega) (fun h11 => ?_) (fun h11 => ?_)
    · skip
      refine lv_iload_n hx hb d_M_sizeFor_18 rfl (lv_at hl 0 rfl) ?_
      refine lv_bipush (v := nI 8) hx hb d_M_sizeFor_19 (by decide +kernel) ?_
      refine nx_icmp_gt (tgt := 29) hx hb d_M_sizeFor_21 (by decide) (by omega) (by omega) (fun h21 => ?_) (fun h21 => ?_)
      · skip
        refine lv_bipush (v := nI 16) hx hb d_M_sizeFor_29 (by decide +kernel) ?_
        exact hret 31 ls (nI 16) d_M_sizeFor_31 (by unfold sz_f; rw [if_neg (by omega), if_neg (by omega), if_neg (by omega)])
      · skip
        refine lv_bipush (v := nI 8) hx hb d_M_sizeFor_24 (by decide +kernel) ?_
        refine lv_goto (tgt := 31) hx hb d_M_sizeFor_26 (by decide) ?_
        exact hret 31 ls (nI 8) d_M_sizeFor_31 (by unfold sz_f; rw [if_neg (by omega), if_neg (by omega), if_pos h21])
    · skip
      refine lv_iconst (v := nI 4) hx hb d_M_sizeFor_14 (by decide +kernel) ?_
      refine lv_goto (tgt := 31) hx hb d_M_sizeFor_15 (by decide) ?_
      exact hret 31 ls (nI 4) d_M_sizeFor_31 (by unfold sz_f; rw [if_neg (by omega), if_pos h11])
  · skip
    refine lv_iconst (v := nI 2) hx hb d_M_sizeFor_5 (by decide +kernel) ?_
    refine lv_goto (tgt := 31) hx hb d_M_sizeFor_6 (by decide) ?_
    exact hret 31 ls (nI 2) d_M_sizeFor_31 (by unfold sz_f; rw [if_pos h2])

set_option maxHeartbeats 4000000 in
set_option maxRecDepth 100000 in
theorem c_M_smallRoom (l : Launch) (D : va_G) (ca : Nat → ClassId) (hs : Nat → Nat) (rt : Nat → Int32) (wd : Nat → Int32) (ob : Nat → Nat) (ln : Nat → Nat) (kd : Nat → Nat) (qt : Nat → Bool) (df : Nat → Bool) (mk : Nat → Bool) (th : Nat) (cn : Nat) (gv : Nat) (z : Nat) (hz : z = 2 ∨ z = 4 ∨ z = 8 ∨ z = 16) (f : Bool) (hk : ∀ b, b < 16 → kd b < 34) (hov : iv_o ob ln kd) : Met l y_M_smallRoom (Cond.code y_M_smallRoom b_M_smallRoom 4 (some .int) :: wa_all) (rm_d 1) (va_Pc [.ref (hs 0), .int (nI z), .int (zb_e f)] (gx_I D cl_all (ty_M ca) (gw_M ca hs rt wd ob ln kd qt df mk th cn gv))) (QcRead (lr_e (if rm_s ob kd z < 512 then rm_s ob kd z else 32 * rm_b kd df f 1))) 0 0 (fun _ => False) := by
  refine gx_pureI (by decide) (Nat.le_of_ble_eq_true rfl) ?_
  intro p e s m args below meth c ls Q hx hb hml ht hown hret hP hK hD hl
  have hl : lv_has ls 4 [(0, .ref (hs 0)), (1, .int (nI z)), (2, .int (zb_e f))] := hl
  have hown : s.vm.findClass R_M = some m.cls := hown
  have hz2 : 2 ≤ z ∧ z ≤ 16 := by omega
  refine lv_iconst (v := nI 0) hx hb d_M_smallRoom_0 (by decide +kernel) ?_
  refine lv_istore_n (lv' := [(3, .int (nI 0)), (0, .ref (hs 0)), (1, .int (nI z)), (2, .int (zb_e f))]) hx hb d_M_smallRoom_1 rfl hl (by decide) rfl (fun ls hl => ?_)
  have key2 : ∀ (n9 : Nat) (i : Nat) (ls : Array Slot), 512 - i = n9 → i ≤ 512 → i % 2 = 0 → (∀ j, j < i → j % 2 = 0 → ¬ (kd (j / 32) = z ∧ j % z = 0 ∧ ob j = 0)) → lv_has ls 4 [(0, .ref (hs 0)), (1, .int (nI z)), (2, .int (zb_e f)), (3, .int (nI i))] → W p l e (rm_d 1) s m args below meth c s.heap [] 0 0 Q (F0 m 2 ls []) := by
    intro n9
    induction n9 using Nat.strongRecOn with
    | ind n9 ih2 =>
      intro i ls hn2 hi hi2 hm hl
      refine lv_iload_n hx hb d_M_smallRoom_2 rfl (lv_at hl 3 rfl) ?_
      refine lv_sipush (v := nI 512) hx hb d_M_smallRoom_3 (by decide +kernel) ?_
      refine nx_icmp_ge (tgt := 45) hx hb d_M_smallRoom_6 (by decide) (by omega) (by omega) (fun h6 => ?_) (fun h6 => ?_)
      · skip
        have hnos : ¬ rm_s ob kd z < 512 := rm_sn hov hz (fun j hj hj2 => hm j (by omega) hj2)
        refine lv_iconst (v := nI 0) hx hb d_M_smallRoom_45 (by decide +kernel) ?_
        refine lv_istore_n (lv' := [(3, .int (nI 0)), (0, .ref (hs 0)), (1, .int (nI z)), (2, .int (zb_e f))]) hx hb d_M_smallRoom_46 rfl hl (by decide) rfl (fun ls hl => ?_)
        have key47 : ∀ (n9 : Nat) (b : Nat) (ls : Array Slot), 16 - b = n9 → b ≤ 16 → (∀ j, j < b → rn_b kd df f 1 j = false) → lv_has ls 4 [(0, .ref (hs 0)), (1, .int (nI z)), (2, .int (zb_e f)), (3, .int (nI b))] → W p l e (rm_d 1) s m args below meth c s.heap [] 0 0 Q (F0 m 47 ls []) := by
          intro n9
          induction n9 using Nat.strongRecOn with
          | ind n9 ih47 =>
            intro b ls hn47 hb16 hmb hl
            refine lv_iload_n hx hb d_M_smallRoom_47 rfl (lv_at hl 3 rfl) ?_
            refine lv_bipush (v := nI 16) hx hb d_M_smallRoom_48 (by decide +kernel) ?_
            refine nx_icmp_ge (tgt := 73) hx hb d_M_smallRoom_50 (by decide) (by omega) (by omega) (fun h50 => ?_) (fun h50 => ?_)
            · skip
              refine lv_iconst (v := -1) hx hb d_M_smallRoom_73 (by decide +kernel) ?_
              exact hret 74 ls (-1) d_M_smallRoom_74 (by rw [if_neg hnos, show rm_b kd df f 1 = 16 from le_no (P := rn_b kd df f 1) (fun j hj => hmb j (by omega))]; rfl)
            · skip
              refine lv_aload_n hx hb d_M_smallRoom_53 rfl (lv_at hl 0 rfl) ?_
              refine lv_iload_n hx hb d_M_smallRoom_54 rfl (lv_at hl 3 rfl) ?_
              refine lv_iload_n hx hb d_M_smallRoom_55 rfl (lv_at hl 2 rfl) ?_
              refine gx_cV (n := 2) (q0 := 0) (ci := 1) (q := (R_M, F_M, 11)) (C := R_M) (own := R_M) (As := [.int (nI b), .int (zb_e f)]) (rest := []) ⟨hx, hb, hml, hown, ht⟩ hg_all (c_M_isOpen l D ca hs (rt) (wd) (ob) (ln) (kd) (qt) (df) (mk) (th) (cn) (gv) (b) (by omega) f hk) wm_397 wm_398 wm_23 wm_36 wm_399 ⟨rfl, by decide, by decide, by decide +kernel⟩ rfl ⟨rfl, rfl⟩ ⟨by decide, by decide⟩ ⟨by decide, by decide⟩ hK hP hD rfl rfl rfl hl.1 rfl (Nat.le_of_ble_eq_true rfl) d_M_smallRoom_56 ?_
              refine nx_if_eq_b (tgt := 67) hx hb d_M_smallRoom_59 (by decide) (fun h59 => ?_) (fun h59 => ?_)
              · skip
                refine lv_iinc (k := 3) (v := nI (b + 1)) (lv' := [(3, .int (nI (b + 1))), (0, .ref (hs 0)), (1, .int (nI z)), (2, .int (zb_e f))]) hx hb d_M_smallRoom_67 hl rfl (nx_inc1 _) (by decide) rfl (fun ls hl => ?_)
                refine lv_goto (tgt := 47) hx hb d_M_smallRoom_70 (by decide) ?_
                exact ih47 _ (by omega) (b + 1) _ rfl (by omega) (lt_s hmb ((rn_1 h50).trans h59)) (lv_sub hl [1, 2, 3, 0] rfl)
              · skip
                refine lv_bipush (v := nI 32) hx hb d_M_smallRoom_62 (by decide +kernel) ?_
                refine lv_iload_n hx hb d_M_smallRoom_64 rfl (lv_at hl 3 rfl) ?_
                refine nx_imul hx hb d_M_smallRoom_65 ?_
                exact hret 66 ls (nI (32 * b)) d_M_smallRoom_66 (by rw [if_neg hnos, show rm_b kd df f 1 = b from le_eq (P := rn_b kd df f 1) h50 ((rn_1 h50).trans h59) hmb]; exact (if_pos (show 32 * b < 512 by omega)).symm)
        exact key47 _ (0) _ rfl (Nat.zero_le _) (lt_0) (lv_sub hl [1, 2, 3, 0] rfl)
      · skip
        refine lv_aload_n hx hb d_M_smallRoom_9 rfl (lv_at hl 0 rfl) ?_
        refine va_get (D := D) (ci := 1) (v := .ref (hs 7)) (C := R_M) (T := F_M) (N := 11) hx hb ht in_M hown hK hP 0 rfl rfl 7 (by decide) (ht _ wm_353) (fun _ h9 => h9) rfl d_M_smallRoom_10 ?_
        refine lv_iload_n hx hb d_M_smallRoom_13 rfl (lv_at hl 3 rfl) ?_
        refine lv_bipush (v := nI 32) hx hb d_M_smallRoom_14 (by decide +kernel) ?_
        refine nx_idiv hx hb d_M_smallRoom_16 (by omega) (by omega) (by omega) ?_
        refine nx_iald hx hb hK hP 7 6 nI kd rfl rfl (i / 32) (by omega) (by decide) d_M_smallRoom_17 ?_
        refine lv_iload_n hx hb d_M_smallRoom_18 rfl (lv_at hl 1 rfl) ?_
        refine nx_icmp_ne (tgt := 39) hx hb d_M_smallRoom_19 (by decide) (by have := hk (i / 32) (by omega); omega) (by omega) (fun h19 => ?_) (fun h19 => ?_)
        · skip
          refine lv_iinc (k := 3) (v := nI (i + 2)) (lv' := [(3, .int (nI (i + 2))), (0, .ref (hs 0)), (1, .int (nI z)), (2, .int (zb_e f))]) hx hb d_M_smallRoom_39 hl rfl (nx_inc2 _) (by decide) rfl (fun ls hl => ?_)
          refine lv_goto (tgt := 2) hx hb d_M_smallRoom_42 (by decide) ?_
          exact ih2 _ (by omega) (i + 2) _ rfl (by omega) (by omega) (fun j hj hj2 => by
              by_cases e : j < i
              · exact hm j e hj2
              · have e : j = i := by omega
                subst e
                exact fun q => h19 q.1) (lv_sub hl [1, 2, 3, 0] rfl)
        · skip
          refine lv_iload_n hx hb d_M_smallRoom_22 rfl (lv_at hl 3 rfl) ?_
          refine lv_iload_n hx hb d_M_smallRoom_23 rfl (lv_at hl 1 rfl) ?_
          refine nx_irem hx hb d_M_smallRoom_24 (by omega) (by omega) (by omega) ?_
          refine nx_if_ne (tgt := 39) hx hb d_M_smallRoom_25 (by decide) (by have := Nat.mod_lt i (show 0 < z by omega); omega) (fun h25 => ?_) (fun h25 => ?_)
          · skip
            refine lv_iinc (k := 3) (v := nI (i + 2)) (lv' := [(3, .int (nI (i + 2))), (0, .ref (hs 0)), (1, .int (nI z)), (2, .int (zb_e f))]) hx hb d_M_smallRoom_39 hl rfl (nx_inc2 _) (by decide) rfl (fun ls hl => ?_)
            refine lv_goto (tgt := 2) hx hb d_M_smallRoom_42 (by decide) ?_
            exact ih2 _ (by omega) (i + 2) _ rfl (by omega) (by omega) (fun j hj hj2 => by
                by_cases e : j < i
                · exact hm j e hj2
                · have e : j = i := by omega
                  subst e
                  exact fun q => h25 q.2.1) (lv_sub hl [1, 2, 3, 0] rfl)
          · skip
            refine lv_aload_n hx hb d_M_smallRoom_28 rfl (lv_at hl 0 rfl) ?_
            refine va_get (D := D) (ci := 1) (v := .ref (hs 3)) (C := R_M) (T := F_M) (N := 11) hx hb ht in_M hown hK hP 0 rfl rfl 3 (by decide) (ht _ wm_349) (fun _ h9 => h9) rfl d_M_smallRoom_29 ?_
            refine lv_iload_n hx hb d_M_smallRoom_32 rfl (lv_at hl 3 rfl) ?_
            refine nx_iald hx hb hK hP 3 2 nI ob rfl rfl i (by omega) (by decide) d_M_smallRoom_33 ?_
            refine nx_if_ne (tgt := 39) hx hb d_M_smallRoom_34 (by decide) (by have := iv_lt hov h6; omega) (fun h34 => ?_) (fun h34 => ?_)
            · skip
              refine lv_iinc (k := 3) (v := nI (i + 2)) (lv' := [(3, .int (nI (i + 2))), (0, .ref (hs 0)), (1, .int (nI z)), (2, .int (zb_e f))]) hx hb d_M_smallRoom_39 hl rfl (nx_inc2 _) (by decide) rfl (fun ls hl => ?_)
              refine lv_goto (tgt := 2) hx hb d_M_smallRoom_42 (by decide) ?_
              exact ih2 _ (by omega) (i + 2) _ rfl (by omega) (by omega) (fun j hj hj2 => by
                  by_cases e : j < i
                  · exact hm j e hj2
                  · have e : j = i := by omega
                    subst e
                    exact fun q => h34 q.2.2) (lv_sub hl [1, 2, 3, 0] rfl)
            · skip
              refine lv_iload_n hx hb d_M_smallRoom_37 rfl (lv_at hl 3 rfl) ?_
              exact hret 38 ls (nI i) d_M_smallRoom_38 (by rw [rm_sq hov hz h6 h19 h34 hm, if_pos h6]; exact (if_pos h6).symm)
  exact key2 _ (0) _ rfl (Nat.zero_le _) (rfl) (fun j hj => absurd hj (Nat.not_lt_zero _)) (lv_sub hl [1, 2, 3, 0] rfl)

set_option maxHeartbeats 4000000 in
set_option maxRecDepth 100000 in
theorem c_M_largeRoom (l : Launch) (D : va_G) (ca : Nat → ClassId) (hs : Nat → Nat) (rt : Nat → Int32) (wd : Nat → Int32) (ob : Nat → Nat) (ln : Nat → Nat) (kd : Nat → Nat) (qt : Nat → Bool) (df : Nat → Bool) (mk : Nat → Bool) (th : Nat) (cn : Nat) (gv : Nat) (k : Nat) (hk1 : 1 ≤ k) (hk2 : k ≤ 16) (f : Bool) (hk : ∀ b, b < 16 → kd b < 34) : Met l y_M_largeRoom (Cond.code y_M_largeRoom b_M_largeRoom 6 (some .int) :: wa_all) (rm_d 1) (va_Pc [.ref (hs 0), .int (nI k), .int (zb_e f)] (gx_I D cl_all (ty_M ca) (gw_M ca hs rt wd ob ln kd qt df mk th cn gv))) (QcRead (lr_e (32 * rm_b kd df f k))) 0 0 (fun _ => False) := by
  refine gx_pureI (by decide) (Nat.le_of_ble_eq_true rfl) ?_
  intro p e s m args below meth c ls Q hx hb hml ht hown hret hP hK hD hl
  have hl : lv_has ls 6 [(0, .ref (hs 0)), (1, .int (nI k)), (2, .int (zb_e f))] := hl
  have hown : s.vm.findClass R_M = some m.cls := hown
  refine lv_iconst (v := nI 0) hx hb d_M_largeRoom_0 (by decide +kernel) ?_
  refine lv_istore_n (lv' := [(3, .int (nI 0)), (0, .ref (hs 0)), (1, .int (nI k)), (2, .int (zb_e f))]) hx hb d_M_largeRoom_1 rfl hl (by decide) rfl (fun ls hl => ?_)
  have key2 : ∀ (n9 : Nat) (b : Nat) (ls : Array Slot), 17 - b = n9 → b ≤ 17 - k → (∀ j, j < b → rn_b kd df f k j = false) → lv_has ls 6 [(0, .ref (hs 0)), (1, .int (nI k)), (2, .int (zb_e f)), (3, .int (nI b))] → W p l e (rm_d 1) s m args below meth c s.heap [] 0 0 Q (F0 m 2 ls []) := by
    intro n9
    induction n9 using Nat.strongRecOn with
    | ind n9 ih2 =>
      intro b ls hn2 hb16 hmb hl
      refine lv_iload_n hx hb d_M_largeRoom_2 rfl (lv_at hl 3 rfl) ?_
      refine lv_iload_n hx hb d_M_largeRoom_3 rfl (lv_at hl 1 rfl) ?_
      refine nx_iadd hx hb d_M_largeRoom_4 ?_
      refine lv_bipush (v := nI 16) hx hb d_M_largeRoom_5 (by decide +kernel) ?_
      refine nx_icmp_gt (tgt := 68) hx hb d_M_largeRoom_7 (by decide) (by omega) (by omega) (fun h7 => ?_) (fun h7 => ?_)
      · skip
        refine lv_iconst (v := -1) hx hb d_M_largeRoom_68 (by decide +kernel) ?_
        exact hret 69 ls (-1) d_M_largeRoom_69 (by rw [show rm_b kd df f k = 16 from le_no (P := rn_b kd df f k) (fun j hj => by
                by_cases e : j < b
                · exact hmb j e
                · exact cl_f.mpr (fun q => by have := q.1; omega))]; rfl)
      · skip
        refine lv_iconst (v := zb_e true) hx hb d_M_largeRoom_10 (by decide +kernel) ?_
        refine lv_istore (lv' := [(4, .int (zb_e true)), (0, .ref (hs 0)), (1, .int (nI k)), (2, .int (zb_e f)), (3, .int (nI b))]) hx hb d_M_largeRoom_11 hl (by decide) rfl (fun ls hl => ?_)
        refine lv_iconst (v := nI 0) hx hb d_M_largeRoom_13 (by decide +kernel) ?_
        refine lv_istore (lv' := [(5, .int (nI 0)), (4, .int (zb_e true)), (0, .ref (hs 0)), (1, .int (nI k)), (2, .int (zb_e f)), (3, .int (nI b))]) hx hb d_M_largeRoom_14 hl (by decide) rfl (fun ls hl => ?_)
        have key16 : ∀ (n9 : Nat) (j : Nat) (al : Bool) (ls : Array Slot), k - j = n9 → j ≤ k → al = cl_b (∀ t, t < j → us_b kd df f (b + t) = true) → lv_has ls 6 [(0, .ref (hs 0)), (1, .int (nI k)), (2, .int (zb_e f)), (3, .int (nI b)), (4, .int (zb_e al)), (5, .int (nI j))] → W p l e (rm_d 1) s m args below meth c s.heap [] 0 0 Q (F0 m 16 ls []) := by
          intro n9
          induction n9 using Nat.strongRecOn with
          | ind n9 ih16 =>
            intro j al ls hn16 hj hal hl
            refine lv_iload hx hb d_M_largeRoom_16 (lv_at hl 5 rfl) ?_
            refine lv_iload_n hx hb d_M_largeRoom_18 rfl (lv_at hl 1 rfl) ?_
            refine nx_icmp_ge (tgt := 52) hx hb d_M_largeRoom_19 (by decide) (by omega) (by omega) (fun h19 => ?_) (fun h19 => ?_)
            · skip
              refine lv_iload hx hb d_M_largeRoom_52 (lv_at hl 4 rfl) ?_
              refine nx_if_eq_b (tgt := 62) hx hb d_M_largeRoom_54 (by decide) (fun h54 => ?_) (fun h54 => ?_)
              · skip
                refine lv_iinc (k := 3) (v := nI (b + 1)) (lv' := [(3, .int (nI (b + 1))), (0, .ref (hs 0)), (1, .int (nI k)), (2, .int (zb_e f)), (4, .int (zb_e al)), (5, .int (nI j))]) hx hb d_M_largeRoom_62 hl rfl (nx_inc1 _) (by decide) rfl (fun ls hl => ?_)
                refine lv_goto (tgt := 2) hx hb d_M_largeRoom_65 (by decide) ?_
                exact ih2 _ (by omega) (b + 1) _ rfl (by omega) (lt_s hmb (cl_f.mpr (fun q => cl_f.mp (hal.symm.trans h54) (fun t ht => q.2 t (by omega))))) (lv_sub hl [1, 2, 3, 0] rfl)
              · skip
                refine lv_bipush (v := nI 32) hx hb d_M_largeRoom_57 (by decide +kernel) ?_
                refine lv_iload_n hx hb d_M_largeRoom_59 rfl (lv_at hl 3 rfl) ?_
                refine nx_imul hx hb d_M_largeRoom_60 ?_
                exact hret 61 ls (nI (32 * b)) d_M_largeRoom_61 (by rw [show rm_b kd df f k = b from le_eq (P := rn_b kd df f k) (by omega) (cl_t.mpr ⟨h7, fun t ht => cl_t.mp (hal.symm.trans h54) t (by omega)⟩) hmb]; exact (if_pos (show 32 * b < 512 by omega)).symm)
            · skip
              refine lv_iload hx hb d_M_largeRoom_22 (lv_at hl 4 rfl) ?_
              refine nx_if_eq_b (tgt := 43) hx hb d_M_largeRoom_24 (by decide) (fun h24 => ?_) (fun h24 => ?_)
              · skip
                refine lv_iconst (v := zb_e false) hx hb d_M_largeRoom_43 (by decide +kernel) ?_
                refine lv_istore (lv' := [(4, .int (zb_e false)), (0, .ref (hs 0)), (1, .int (nI k)), (2, .int (zb_e f)), (3, .int (nI b)), (5, .int (nI j))]) hx hb d_M_largeRoom_44 hl (by decide) rfl (fun ls hl => ?_)
                refine lv_iinc (k := 5) (v := nI (j + 1)) (lv' := [(5, .int (nI (j + 1))), (4, .int (zb_e false)), (0, .ref (hs 0)), (1, .int (nI k)), (2, .int (zb_e f)), (3, .int (nI b))]) hx hb d_M_largeRoom_46 hl rfl (nx_inc1 _) (by decide) rfl (fun ls hl => ?_)
                refine lv_goto (tgt := 16) hx hb d_M_largeRoom_49 (by decide) ?_
                exact ih16 _ (by omega) (j + 1) (false) _ rfl (by omega) ((by have := cl_s (p := fun t => us_b kd df f (b + t) = true) (c := us_b kd df f (b + j)) hal Iff.rfl; rw [h24] at this; exact this)) (lv_sub hl [2, 3, 4, 5, 1, 0] rfl)
              · skip
                refine lv_aload_n hx hb d_M_largeRoom_27 rfl (lv_at hl 0 rfl) ?_
                refine lv_iload_n hx hb d_M_largeRoom_28 rfl (lv_at hl 3 rfl) ?_
                refine lv_iload hx hb d_M_largeRoom_29 (lv_at hl 5 rfl) ?_
                refine nx_iadd hx hb d_M_largeRoom_31 ?_
                refine lv_iload_n hx hb d_M_largeRoom_32 rfl (lv_at hl 2 rfl) ?_
                refine gx_cV (n := 2) (q0 := 0) (ci := 1) (q := (R_M, F_M, 11)) (C := R_M) (own := R_M) (As := [.int (nI (b + j)), .int (zb_e f)]) (rest := []) ⟨hx, hb, hml, hown, ht⟩ hg_all (c_M_isOpen l D ca hs (rt) (wd) (ob) (ln) (kd) (qt) (df) (mk) (th) (cn) (gv) (b + j) (by omega) f hk) wm_397 wm_398 wm_23 wm_36 wm_399 ⟨rfl, by decide, by decide, by decide +kernel⟩ rfl ⟨rfl, rfl⟩ ⟨by decide, by decide⟩ ⟨by decide, by decide⟩ hK hP hD rfl rfl rfl hl.1 rfl (Nat.le_of_ble_eq_true rfl) d_M_largeRoom_33 ?_
                refine nx_if_eq_b (tgt := 43) hx hb d_M_largeRoom_36 (by decide) (fun h36 => ?_) (fun h36 => ?_)
                · skip
                  refine lv_iconst (v := zb_e false) hx hb d_M_largeRoom_43 (by decide +kernel) ?_
                  refine lv_istore (lv' := [(4, .int (zb_e false)), (0, .ref (hs 0)), (1, .int (nI k)), (2, .int (zb_e f)), (3, .int (nI b)), (5, .int (nI j))]) hx hb d_M_largeRoom_44 hl (by decide) rfl (fun ls hl => ?_)
                  refine lv_iinc (k := 5) (v := nI (j + 1)) (lv' := [(5, .int (nI (j + 1))), (4, .int (zb_e false)), (0, .ref (hs 0)), (1, .int (nI k)), (2, .int (zb_e f)), (3, .int (nI b))]) hx hb d_M_largeRoom_46 hl rfl (nx_inc1 _) (by decide) rfl (fun ls hl => ?_)
                  refine lv_goto (tgt := 16) hx hb d_M_largeRoom_49 (by decide) ?_
                  exact ih16 _ (by omega) (j + 1) (false) _ rfl (by omega) ((by have := cl_s (p := fun t => us_b kd df f (b + t) = true) (c := us_b kd df f (b + j)) hal Iff.rfl; rw [h36, Bool.and_false] at this; exact this)) (lv_sub hl [2, 3, 4, 5, 1, 0] rfl)
                · skip
                  refine lv_iconst (v := zb_e true) hx hb d_M_largeRoom_39 (by decide +kernel) ?_
                  refine lv_goto (tgt := 44) hx hb d_M_largeRoom_40 (by decide) ?_
                  refine lv_istore (lv' := [(4, .int (zb_e true)), (0, .ref (hs 0)), (1, .int (nI k)), (2, .int (zb_e f)), (3, .int (nI b)), (5, .int (nI j))]) hx hb d_M_largeRoom_44 hl (by decide) rfl (fun ls hl => ?_)
                  refine lv_iinc (k := 5) (v := nI (j + 1)) (lv' := [(5, .int (nI (j + 1))), (4, .int (zb_e true)), (0, .ref (hs 0)), (1, .int (nI k)), (2, .int (zb_e f)), (3, .int (nI b))]) hx hb d_M_largeRoom_46 hl rfl (nx_inc1 _) (by decide) rfl (fun ls hl => ?_)
                  refine lv_goto (tgt := 16) hx hb d_M_largeRoom_49 (by decide) ?_
                  exact ih16 _ (by omega) (j + 1) (true) _ rfl (by omega) ((by have := cl_s (p := fun t => us_b kd df f (b + t) = true) (c := us_b kd df f (b + j)) hal Iff.rfl; rw [h24, h36] at this; exact this)) (lv_sub hl [2, 3, 4, 5, 1, 0] rfl)
        exact key16 _ (0) (true) _ rfl (Nat.zero_le _) ((cl_t.mpr lt_0).symm) (lv_sub hl [2, 3, 4, 5, 1, 0] rfl)
  exact key2 _ (0) _ rfl (Nat.zero_le _) (lt_0) (lv_sub hl [1, 2, 3, 0] rfl)

set_option maxHeartbeats 4000000 in
set_option maxRecDepth 100000 in
theorem c_M_room (l : Launch) (D : va_G) (ca : Nat → ClassId) (hs : Nat → Nat) (rt : Nat → Int32) (wd : Nat → Int32) (ob : Nat → Nat) (ln : Nat → Nat) (kd : Nat → Nat) (qt : Nat → Bool) (df : Nat → Bool) (mk : Nat → Bool) (th : Nat) (cn : Nat) (gv : Nat) (n : Nat) (hn1 : 1 ≤ n) (hn2 : n ≤ 128) (f : Bool) (hk : ∀ b, b < 16 → kd b < 34) (hov : iv_o ob ln kd) : Met l y_M_room (Cond.code y_M_room b_M_room 3 (some .int) :: wa_all) (rm_d 2) (va_Pc [.ref (hs 0), .int (nI n), .int (zb_e f)] (gx_I D cl_all (ty_M ca) (gw_M ca hs rt wd ob ln kd qt df mk th cn gv))) (QcRead (lr_e (rm_n ob kd df n f))) 0 0 (fun _ => False) := by
  refine gx_pureI (by decide) (Nat.le_of_ble_eq_true rfl) ?_
  intro p e s m args below meth c ls Q hx hb hml ht hown hret hP hK hD hl
  have hl : lv_has ls 3 [(0, .ref (hs 0)), (1, .int (nI n)), (2, .int (zb_e f))] := hl
  have hown : s.vm.findClass R_M = some m.cls := hown
  refine lv_iload_n hx hb d_M_room_0 rfl (lv_at hl 1 rfl) ?_
  refine lv_bipush (v := nI 16) hx hb d_M_room_1 (by decide +kernel) ?_
  refine nx_icmp_gt (tgt := 18) hx hb d_M_room_3 (by decide) (by omega) (by omega) (fun h3 => ?_) (fun h3 => ?_)
  · skip
    refine lv_aload_n hx hb d_M_room_18 rfl (lv_at hl 0 rfl) ?_
    refine lv_iload_n hx hb d_M_room_19 rfl (lv_at hl 1 rfl) ?_
    refine lv_bipush (v := nI 31) hx hb d_M_room_20 (by decide +kernel) ?_
    refine nx_iadd hx hb d_M_room_22 ?_
    refine lv_bipush (v := nI 32) hx hb d_M_room_23 (by decide +kernel) ?_
    refine nx_idiv hx hb d_M_room_25 (by omega) (by omega) (by omega) ?_
    refine lv_iload_n hx hb d_M_room_26 rfl (lv_at hl 2 rfl) ?_
    refine gx_cV (n := 2) (q0 := 0) (ci := 1) (q := (R_M, F_M, 11)) (C := R_M) (own := R_M) (As := [.int (nI ((n + 31) / 32)), .int (zb_e f)]) (rest := []) ⟨hx, hb, hml, hown, ht⟩ hg_all (c_M_largeRoom l D ca hs (rt) (wd) (ob) (ln) (kd) (qt) (df) (mk) (th) (cn) (gv) ((n + 31) / 32) (by omega) (by omega) f hk) wm_400 wm_401 wm_24 wm_36 wm_402 ⟨rfl, by decide, by decide, by decide +kernel⟩ rfl ⟨rfl, rfl⟩ ⟨by decide, by decide⟩ ⟨by decide, by decide⟩ hK hP hD rfl rfl rfl hl.1 rfl (Nat.le_of_ble_eq_true rfl) d_M_room_27 ?_
    exact hret 30 ls (lr_e (32 * rm_b (kd) (df) f ((n + 31) / 32))) d_M_room_30 (by unfold rm_n bk_f; rw [if_neg (by omega)])
  · skip
    refine lv_aload_n hx hb d_M_room_6 rfl (lv_at hl 0 rfl) ?_
    refine lv_iload_n hx hb d_M_room_7 rfl (lv_at hl 1 rfl) ?_
    refine gx_cS (n := 1) (own := R_M) (As := [.int (nI n)]) (rest := [.ref (hs 0)]) ⟨hx, hb, hml, hown, ht⟩ hg_all (c_M_sizeFor l (n) (by omega)) wm_391 wm_392 wm_36 wm_393 ⟨rfl, by decide, by decide, by decide +kernel⟩ rfl ⟨rfl, rfl⟩ ⟨by decide, by decide⟩ ⟨by decide, by decide⟩ hl.1 rfl (Nat.le_of_ble_eq_true rfl) d_M_room_8 ?_
    refine lv_iload_n hx hb d_M_room_11 rfl (lv_at hl 2 rfl) ?_
    refine gx_cV (n := 2) (q0 := 0) (ci := 1) (q := (R_M, F_M, 11)) (C := R_M) (own := R_M) (As := [.int (nI (sz_f (n))), .int (zb_e f)]) (rest := []) ⟨hx, hb, hml, hown, ht⟩ hg_all (c_M_smallRoom l D ca hs (rt) (wd) (ob) (ln) (kd) (qt) (df) (mk) (th) (cn) (gv) (sz_f (n)) (sz_is n) f hk hov) wm_394 wm_395 wm_22 wm_36 wm_396 ⟨rfl, by decide, by decide, by decide +kernel⟩ rfl ⟨rfl, rfl⟩ ⟨by decide, by decide⟩ ⟨by decide, by decide⟩ hK hP hD rfl rfl rfl hl.1 rfl (Nat.le_of_ble_eq_true rfl) d_M_room_12 ?_
    refine lv_goto (tgt := 30) hx hb d_M_room_15 (by decide) ?_
    exact hret 30 ls (lr_e (if rm_s (ob) (kd) (sz_f (n)) < 512 then rm_s (ob) (kd) (sz_f (n)) else 32 * rm_b (kd) (df) f 1)) d_M_room_30 (by unfold rm_n; rw [if_pos h3])

set_option maxHeartbeats 4000000 in
set_option maxRecDepth 100000 in
theorem c_M_isBare (l : Launch) (D : va_G) (ca : Nat → ClassId) (hs : Nat → Nat) (rt : Nat → Int32) (wd : Nat → Int32) (ob : Nat → Nat) (ln : Nat → Nat) (kd : Nat → Nat) (qt : Nat → Bool) (df : Nat → Bool) (mk : Nat → Bool) (th : Nat) (cn : Nat) (gv : Nat) (b : Nat) (hb16 : b < 16) (ho : ∀ i, i < 512 → ob i < 513) : Met l y_M_isBare (Cond.code y_M_isBare b_M_isBare 4 (some .boolean) :: wa_all) (rm_d 0) (va_Pc [.ref (hs 0), .int (nI b)] (gx_I D cl_all (ty_M ca) (gw_M ca hs rt wd ob ln kd qt df mk th cn gv))) (QcRead (zb_e (cl_b (co_br ob b)))) 0 0 (fun _ => False) := by
  refine gx_pureZ (by decide) (Nat.le_of_ble_eq_true rfl) ?_
  intro p e s m args below meth c ls Q hx hb hml ht hown hret hP hK hD hl
  have hl : lv_has ls 4 [(0, .ref (hs 0)), (1, .int (nI b))] := hl
  have hown : s.vm.findClass R_M = some m.cls := hown
  refine lv_iconst (v := zb_e true) hx hb d_M_isBare_0 (by decide +kernel) ?_
  refine lv_istore_n (lv' := [(2, .int (zb_e true)), (0, .ref (hs 0)), (1, .int (nI b))]) hx hb d_M_isBare_1 rfl hl (by decide) rfl (fun ls hl => ?_)
  refine lv_bipush (v := nI 32) hx hb d_M_isBare_2 (by decide +kernel) ?_
  refine lv_iload_n hx hb d_M_isBare_4 rfl (lv_at hl 2 rfl) ?_
  refine nx_imul hx hb d_M_isBare_5 ?_
  refine lv_istore_n (lv' := [(3, .int (nI (32 * b))), (2, .int (zb_e true)), (0, .ref (hs 0)), (1, .int (nI b))]) hx hb d_M_isBare_6 rfl hl (by decide) rfl (fun ls hl => ?_)
  have key7 : ∀ (n9 : Nat) (x : Nat) (br : Bool) (ls : Array Slot), 32 - x = n9 → x ≤ 32 → br = cl_b (∀ t, t < x → ob (32 * b + t) = 0) → lv_has ls 4 [(0, .ref (hs 0)), (1, .int (nI b)), (2, .int (zb_e br)), (3, .int (nI (32 * b + x)))] → W p l e (rm_d 0) s m args below meth c s.heap [] 0 0 Q (F0 m 7 ls []) := by
    intro n9
    induction n9 using Nat.strongRecOn with
    | ind n9 ih7 =>
      intro x br ls hn7 hx32 hbr hl
      refine lv_iload_n hx hb d_M_isBare_7 rfl (lv_at hl 3 rfl) ?_
      refine lv_bipush (v := nI 32) hx hb d_M_isBare_8 (by decide +kernel) ?_
      refine lv_iload_n hx hb d_M_isBare_10 rfl (lv_at hl 1 rfl) ?_
      refine nx_imul hx hb d_M_isBare_11 ?_
      refine lv_bipush (v := nI 32) hx hb d_M_isBare_12 (by decide +kernel) ?_
      refine nx_iadd hx hb d_M_isBare_14 ?_
      refine nx_icmp_ge (tgt := 43) hx hb d_M_isBare_15 (by decide) (by omega) (by omega) (fun h15 => ?_) (fun h15 => ?_)
      · skip
        refine lv_iload_n hx hb d_M_isBare_43 rfl (lv_at hl 2 rfl) ?_
        exact hret 44 ls (br) d_M_isBare_44 (by rw [hbr, show x = 32 by omega]; rfl)
      · skip
        refine lv_iload_n hx hb d_M_isBare_18 rfl (lv_at hl 2 rfl) ?_
        refine nx_if_eq_b (tgt := 35) hx hb d_M_isBare_19 (by decide) (fun h19 => ?_) (fun h19 => ?_)
        · skip
          refine lv_iconst (v := zb_e false) hx hb d_M_isBare_35 (by decide +kernel) ?_
          refine lv_istore_n (lv' := [(2, .int (zb_e false)), (0, .ref (hs 0)), (1, .int (nI b)), (3, .int (nI (32 * b + x)))]) hx hb d_M_isBare_36 rfl hl (by decide) rfl (fun ls hl => ?_)
          refine lv_iinc (k := 3) (v := nI (32 * b + x + 1)) (lv' := [(3, .int (nI (32 * b + x + 1))), (2, .int (zb_e false)), (0, .ref (hs 0)), (1, .int (nI b))]) hx hb d_M_isBare_37 hl rfl (nx_inc1 _) (by decide) rfl (fun ls hl => ?_)
          refine lv_goto (tgt := 7) hx hb d_M_isBare_40 (by decide) ?_
          exact ih7 _ (by omega) (x + 1) (false) _ rfl (by omega) ((by have := cl_s (p := fun t => ob (32 * b + t) = 0) (c := decide (ob (32 * b + x) = 0)) hbr decide_eq_true_iff; rw [h19] at this; exact this)) (lv_sub hl [2, 3, 1, 0] rfl)
        · skip
          refine lv_aload_n hx hb d_M_isBare_22 rfl (lv_at hl 0 rfl) ?_
          refine va_get (D := D) (ci := 1) (v := .ref (hs 3)) (C := R_M) (T := F_M) (N := 11) hx hb ht in_M hown hK hP 0 rfl rfl 3 (by decide) (ht _ wm_349) (fun _ h9 => h9) rfl d_M_isBare_23 ?_
          refine lv_iload_n hx hb d_M_isBare_26 rfl (lv_at hl 3 rfl) ?_
          refine nx_iald hx hb hK hP 3 2 nI ob rfl rfl (32 * b + x) (by omega) (by decide) d_M_isBare_27 ?_
          refine nx_if_ne (tgt := 35) hx hb d_M_isBare_28 (by decide) (by have := ho (32 * b + x) (by omega); omega) (fun h28 => ?_) (fun h28 => ?_)
          · skip
            refine lv_iconst (v := zb_e false) hx hb d_M_isBare_35 (by decide +kernel) ?_
            refine lv_istore_n (lv' := [(2, .int (zb_e false)), (0, .ref (hs 0)), (1, .int (nI b)), (3, .int (nI (32 * b + x)))]) hx hb d_M_isBare_36 rfl hl (by decide) rfl (fun ls hl => ?_)
            refine lv_iinc (k := 3) (v := nI (32 * b + x + 1)) (lv' := [(3, .int (nI (32 * b + x + 1))), (2, .int (zb_e false)), (0, .ref (hs 0)), (1, .int (nI b))]) hx hb d_M_isBare_37 hl rfl (nx_inc1 _) (by decide) rfl (fun ls hl => ?_)
            refine lv_goto (tgt := 7) hx hb d_M_isBare_40 (by decide) ?_
            exact ih7 _ (by omega) (x + 1) (false) _ rfl (by omega) ((by have := cl_s (p := fun t => ob (32 * b + t) = 0) (c := decide (ob (32 * b + x) = 0)) hbr decide_eq_true_iff; rw [decide_eq_false h28, Bool.and_false] at this; exact this)) (lv_sub hl [2, 3, 1, 0] rfl)
          · skip
            refine lv_iconst (v := zb_e true) hx hb d_M_isBare_31 (by decide +kernel) ?_
            refine lv_goto (tgt := 36) hx hb d_M_isBare_32 (by decide) ?_
            refine lv_istore_n (lv' := [(2, .int (zb_e true)), (0, .ref (hs 0)), (1, .int (nI b)), (3, .int (nI (32 * b + x)))]) hx hb d_M_isBare_36 rfl hl (by decide) rfl (fun ls hl => ?_)
            refine lv_iinc (k := 3) (v := nI (32 * b + x + 1)) (lv' := [(3, .int (nI (32 * b + x + 1))), (2, .int (zb_e true)), (0, .ref (hs 0)), (1, .int (nI b))]) hx hb d_M_isBare_37 hl rfl (nx_inc1 _) (by decide) rfl (fun ls hl => ?_)
            refine lv_goto (tgt := 7) hx hb d_M_isBare_40 (by decide) ?_
            exact ih7 _ (by omega) (x + 1) (true) _ rfl (by omega) ((by have := cl_s (p := fun t => ob (32 * b + t) = 0) (c := decide (ob (32 * b + x) = 0)) hbr decide_eq_true_iff; rw [h19, decide_eq_true h28] at this; exact this)) (lv_sub hl [2, 3, 1, 0] rfl)
  exact key7 _ (0) (true) _ rfl (Nat.zero_le _) ((cl_t.mpr lt_0).symm) (lv_sub hl [2, 3, 1, 0] rfl)

def br_n (n : Nat) : Nat := if n = 0 then 2 else 0
set_option maxHeartbeats 4000000 in
set_option maxRecDepth 100000 in
theorem c_M_bar_in (l : Launch) (D : va_G) (ca : Nat → ClassId) (hs : Nat → Nat) (rt : Nat → Int32) (wd : Nat → Int32) (ob : Nat → Nat) (ln : Nat → Nat) (kd : Nat → Nat) (qt : Nat → Bool) (df : Nat → Bool) (mk : Nat → Bool) (th : Nat) (cn : Nat) (gv : Nat) (i : Nat) (hi : i < 512) (ho : ∀ i, i < 512 → ob i < 513) : Met l y_M_bar (Cond.code y_M_bar b_M_bar 2 (some .int) :: wa_all) (rm_d 2) (va_Pc [.ref (hs 0), .int (nI (4096 + i))] (gx_I D cl_all (ty_M ca) (gw_M ca hs rt wd ob ln kd qt df mk th cn gv))) (QcRead (nI (br_n (ob i)))) 0 0 (fun _ => False) := by
  refine gx_pureI (by decide) (Nat.le_of_ble_eq_true rfl) ?_
  intro p e s m args below meth c ls Q hx hb hml ht hown hret hP hK hD hl
  have hl : lv_has ls 2 [(0, .ref (hs 0)), (1, .int (nI (4096 + i)))] := hl
  have hown : s.vm.findClass R_M = some m.cls := hown
  refine lv_iload_n hx hb d_M_bar_0 rfl (lv_at hl 1 rfl) ?_
  refine gx_cS (n := 1) (own := R_M) (As := [.int (nI (4096 + i))]) (rest := []) ⟨hx, hb, hml, hown, ht⟩ hg_all (c_M_isAddress l (nI (4096 + i))) wm_412 wm_413 wm_36 wm_414 ⟨rfl, by decide, by decide, by decide +kernel⟩ rfl ⟨rfl, rfl⟩ ⟨by decide, by decide⟩ ⟨by decide, by decide⟩ hl.1 rfl (Nat.le_of_ble_eq_true rfl) d_M_bar_1 ?_
  refine nx_if_ne_b (tgt := 11) hx hb d_M_bar_4 (by decide) (fun h4 => ?_) (fun h4 => ?_)
  · skip
    refine lv_aload_n hx hb d_M_bar_11 rfl (lv_at hl 0 rfl) ?_
    refine lv_iload_n hx hb d_M_bar_12 rfl (lv_at hl 1 rfl) ?_
    refine gx_cV (n := 1) (q0 := 0) (ci := 1) (q := (R_M, F_M, 11)) (C := R_M) (own := R_M) (As := [.int (nI (4096 + i))]) (rest := []) ⟨hx, hb, hml, hown, ht⟩ hg_all (c_M_objectAt_in l D ca hs (rt) (wd) (ob) (ln) (kd) (qt) (df) (mk) (th) (cn) (gv) i hi) wm_415 wm_416 wm_28 wm_36 wm_417 ⟨rfl, by decide, by decide, by decide +kernel⟩ rfl ⟨rfl, rfl⟩ ⟨by decide, by decide⟩ ⟨by decide, by decide⟩ hK hP hD rfl rfl rfl hl.1 rfl (Nat.le_of_ble_eq_true rfl) d_M_bar_13 ?_
    rcases zs_ca (ob i) with ⟨hc, e9⟩ | ⟨p, hc, e9⟩
    · skip
      refine nx_top e9 ?_
      refine lv_if_ge (tgt := 23) hx hb d_M_bar_16 (by decide) (fun h => absurd h (by decide)) (fun _ => ?_)
      refine lv_iconst (v := nI 2) hx hb d_M_bar_19 (by decide +kernel) ?_
      refine lv_goto (tgt := 24) hx hb d_M_bar_20 (by decide) ?_
      exact hret 24 ls (nI 2) d_M_bar_24 (by rw [hc]; rfl)
    · skip
      have hp := ho i hi
      rw [hc] at hp
      refine nx_top e9 ?_
      refine lv_if_ge (tgt := 23) hx hb d_M_bar_16 (by decide) (fun _ => ?_) (fun h => absurd (nI_pos' (by omega)) h)
      refine lv_iconst (v := nI 0) hx hb d_M_bar_23 (by decide +kernel) ?_
      exact hret 24 ls (nI 0) d_M_bar_24 (by rw [hc]; unfold br_n; rw [if_neg (by omega)])
  · skip
    rw [(ad_i hi).1] at h4
    cases h4

set_option maxHeartbeats 4000000 in
set_option maxRecDepth 100000 in
theorem c_M_bar_out (l : Launch) (D : va_G) (ca : Nat → ClassId) (hs : Nat → Nat) (rt : Nat → Int32) (wd : Nat → Int32) (ob : Nat → Nat) (ln : Nat → Nat) (kd : Nat → Nat) (qt : Nat → Bool) (df : Nat → Bool) (mk : Nat → Bool) (th : Nat) (cn : Nat) (gv : Nat) (w : Int32) (hw : ad_b w = false) : Met l y_M_bar (Cond.code y_M_bar b_M_bar 2 (some .int) :: wa_all) (rm_d 2) (va_Pc [.ref (hs 0), .int (w)] (gx_I D cl_all (ty_M ca) (gw_M ca hs rt wd ob ln kd qt df mk th cn gv))) (QcRead (nI 1)) 0 0 (fun _ => False) := by
  refine gx_pureI (by decide) (Nat.le_of_ble_eq_true rfl) ?_
  intro p e s m args below meth c ls Q hx hb hml ht hown hret hP hK hD hl
  have hl : lv_has ls 2 [(0, .ref (hs 0)), (1, .int (w))] := hl
  have hown : s.vm.findClass R_M = some m.cls := hown
  refine lv_iload_n hx hb d_M_bar_0 rfl (lv_at hl 1 rfl) ?_
  refine gx_cS (n := 1) (own := R_M) (As := [.int (w)]) (rest := []) ⟨hx, hb, hml, hown, ht⟩ hg_all (c_M_isAddress l (w)) wm_412 wm_413 wm_36 wm_414 ⟨rfl, by decide, by decide, by decide +kernel⟩ rfl ⟨rfl, rfl⟩ ⟨by decide, by decide⟩ ⟨by decide, by decide⟩ hl.1 rfl (Nat.le_of_ble_eq_true rfl) d_M_bar_1 ?_
  refine nx_if_ne_b (tgt := 11) hx hb d_M_bar_4 (by decide) (fun h4 => ?_) (fun h4 => ?_)
  · skip
    rw [hw] at h4
    cases h4
  · skip
    refine lv_iconst (v := nI 1) hx hb d_M_bar_7 (by decide +kernel) ?_
    refine lv_goto (tgt := 24) hx hb d_M_bar_8 (by decide) ?_
    exact hret 24 ls (nI 1) d_M_bar_24 (rfl)

set_option maxHeartbeats 4000000 in
set_option maxRecDepth 100000 in
theorem c_M_thrown (l : Launch) (D : va_G) (ca : Nat → ClassId) (hs : Nat → Nat) (rt : Nat → Int32) (wd : Nat → Int32) (ob : Nat → Nat) (ln : Nat → Nat) (kd : Nat → Nat) (qt : Nat → Bool) (df : Nat → Bool) (mk : Nat → Bool) (th : Nat) (cn : Nat) (gv : Nat)  : Met l y_M_thrown (Cond.code y_M_thrown b_M_thrown 1 (some .int) :: wa_all) (rm_d 0) (va_Pc [.ref (hs 0)] (gx_I D cl_all (ty_M ca) (gw_M ca hs rt wd ob ln kd qt df mk th cn gv))) (QcRead (nI th)) 0 0 (fun _ => False) := by
  refine gx_pureI (by decide) (Nat.le_of_ble_eq_true rfl) ?_
  intro p e s m args below meth c ls Q hx hb hml ht hown hret hP hK hD hl
  have hl : lv_has ls 1 [(0, .ref (hs 0))] := hl
  have hown : s.vm.findClass R_M = some m.cls := hown
  refine lv_aload_n hx hb d_M_thrown_0 rfl (lv_at hl 0 rfl) ?_
  refine va_get (D := D) (ci := 1) (v := .int (nI th)) (C := R_M) (T := F_M) (N := 11) hx hb ht in_M hown hK hP 0 rfl rfl 0 (by decide) (ht _ wm_346) (fun _ h9 => h9) rfl d_M_thrown_1 ?_
  exact hret 4 ls (nI th) d_M_thrown_4 (rfl)

