/-! the reference: looking, giving up, settling -/
theorem up_id {α : Type} {f : Nat → α} {k : Nat} {v : α} (h : f k = v) : va_up f k v = f := by
  funext j
  by_cases e : j = k
  · rw [e, va_up_self, h]
  · rw [va_up_ne f v e]
def rz_f {α : Type} (f : Nat → α) (a x : Nat) (z : α) : Nat → α := fun j => if a ≤ j ∧ j < x then z else f j
theorem rz_0 {α : Type} (f : Nat → α) (a : Nat) (z : α) : f = rz_f f a a z := by
  funext j
  unfold rz_f
  rw [if_neg (by omega)]
theorem rz_u {α : Type} (f : Nat → α) {a x : Nat} (z : α) (h : a ≤ x) : va_up (rz_f f a x z) x z = rz_f f a (x + 1) z := by
  funext j
  unfold va_up rz_f
  by_cases e : j = x
  · rw [if_pos e, if_pos (show a ≤ j ∧ j < x + 1 by omega)]
  · rw [if_neg e]
    by_cases q : a ≤ j ∧ j < x
    · rw [if_pos q, if_pos (show a ≤ j ∧ j < x + 1 by omega)]
    · rw [if_neg q, if_neg (show ¬ (a ≤ j ∧ j < x + 1) by omega)]
def kz_f (kd : Nat → Nat) (a0 lz : Nat) : Nat → Nat := fun j => if 32 ≤ kd j ∧ a0 ≤ 32 * j ∧ 32 * j < a0 + lz then 0 else kd j
/-- the kinds and doubts of the blocks that were come to -/
def sk_f (kd : Nat → Nat) (n z a x : Nat) : Nat → Nat := fun b => if a < x ∧ a / 32 ≤ b ∧ 32 * b < x then (if n ≤ 16 then z else if b = a / 32 then 32 else 33) else kd b
def sd_f (df : Nat → Bool) (a x : Nat) : Nat → Bool := fun b => if a < x ∧ a / 32 ≤ b ∧ 32 * b < x then false else df b
theorem sk_0 (kd : Nat → Nat) (n z a : Nat) : kd = sk_f kd n z a a := by
  funext b
  unfold sk_f
  rw [if_neg (show ¬ (a < a ∧ a / 32 ≤ b ∧ 32 * b < a) by omega)]
theorem sd_0 (df : Nat → Bool) (a : Nat) : df = sd_f df a a := by
  funext b
  unfold sd_f
  rw [if_neg (show ¬ (a < a ∧ a / 32 ≤ b ∧ 32 * b < a) by omega)]
theorem sk_u (kd : Nat → Nat) {n z a x : Nat} (h : a ≤ x) : va_up (sk_f kd n z a x) (x / 32) (if n ≤ 16 then z else if x / 32 = a / 32 then 32 else 33) = sk_f kd n z a (x + 1) := by
  funext b
  unfold va_up sk_f
  by_cases e : b = x / 32
  · rw [if_pos e, if_pos (show a < x + 1 ∧ a / 32 ≤ b ∧ 32 * b < x + 1 by omega), e]
  · rw [if_neg e]
    by_cases q : a < x ∧ a / 32 ≤ b ∧ 32 * b < x
    · rw [if_pos q, if_pos (show a < x + 1 ∧ a / 32 ≤ b ∧ 32 * b < x + 1 by omega)]
    · rw [if_neg q, if_neg (show ¬ (a < x + 1 ∧ a / 32 ≤ b ∧ 32 * b < x + 1) by omega)]
theorem sd_u (df : Nat → Bool) {a x : Nat} (h : a ≤ x) : va_up (sd_f df a x) (x / 32) false = sd_f df a (x + 1) := by
  funext b
  unfold va_up sd_f
  by_cases e : b = x / 32
  · rw [if_pos e, if_pos (show a < x + 1 ∧ a / 32 ≤ b ∧ 32 * b < x + 1 by omega)]
  · rw [if_neg e]
    by_cases q : a < x ∧ a / 32 ≤ b ∧ 32 * b < x
    · rw [if_pos q, if_pos (show a < x + 1 ∧ a / 32 ≤ b ∧ 32 * b < x + 1 by omega)]
    · rw [if_neg q, if_neg (show ¬ (a < x + 1 ∧ a / 32 ≤ b ∧ 32 * b < x + 1) by omega)]
theorem sk_e (kd : Nat → Nat) {n z a : Nat} (h : 1 ≤ z) : sk_f kd n z a (a + z) = st_kd kd a z n := by
  funext b
  unfold sk_f st_kd
  by_cases q : a / 32 ≤ b ∧ 32 * b < a + z
  · rw [if_pos q, if_pos (show a < a + z ∧ a / 32 ≤ b ∧ 32 * b < a + z from ⟨by omega, q⟩)]
  · rw [if_neg q, if_neg (fun y => q y.2)]
theorem sd_e (df : Nat → Bool) {a z : Nat} (h : 1 ≤ z) : sd_f df a (a + z) = st_df df a z := by
  funext b
  unfold sd_f st_df
  by_cases q : a / 32 ≤ b ∧ 32 * b < a + z
  · rw [if_pos q, if_pos (show a < a + z ∧ a / 32 ≤ b ∧ 32 * b < a + z from ⟨by omega, q⟩)]
  · rw [if_neg q, if_neg (fun y => q y.2)]
set_option maxHeartbeats 4000000 in
set_option maxRecDepth 100000 in
theorem c_M_look_in (l : Launch) (D : va_G) (ca : Nat → ClassId) (hs : Nat → Nat) (rt : Nat → Int32) (wd : Nat → Int32) (ob : Nat → Nat) (ln : Nat → Nat) (kd : Nat → Nat) (qt : Nat → Bool) (df : Nat → Bool) (mk : Nat → Bool) (th : Nat) (cn : Nat) (gv : Nat) (hov : iv_o ob ln kd) (hk : ∀ b, b < 16 → kd b < 34) (P : Int32 → Prop) (hmi : mk_i ob kd mk df P) (i : Nat) (hi : i < 512) : Met l y_M_look (Cond.code y_M_look b_M_look 4 (some .boolean) :: wa_all) (rm_d 2) (va_Pc [.ref (hs 0), .int (nI (4096 + i))] (gx_I D cl_all (ty_M ca) (gw_M ca hs rt wd ob ln kd qt df mk th cn gv))) (gx_Q D cl_all (gx_A hs 9) (gw_M ca hs rt wd ob ln kd qt df mk th cn gv) (fun v w' => ∃ fr : Bool, v = some (.int (zb_e fr)) ∧ ∃ (df2 mk2 : Nat → Bool), w' = gw_M ca hs rt wd ob ln kd qt df2 mk2 th cn gv ∧ mk_i ob kd mk2 df2 (fun v => P v ∨ v = nI (4096 + i)) ∧ (fr = true → ∃ p, p < 512 ∧ mk p = false ∧ mk2 p = true) ∧ (fr = false → mk2 = mk) ∧ (∀ p, mk p = true → mk2 p = true))) 0 0 (gx_A hs 9) := by
  refine gx_mutZ (by decide) (Nat.le_of_ble_eq_true rfl) gw_M_in ?_
  intro p e s m args below meth c ls Q hx hb hml ht hown hret hP hK hD hS hl
  have hl : lv_has ls 4 [(0, .ref (hs 0)), (1, .int (nI (4096 + i)))] := hl
  have hown : s.vm.findClass R_M = some m.cls := hown
  have hP : va_P D cl_all (gw_M ca hs rt wd ob ln kd qt df mk th cn gv) s.heap := hP
  refine lv_iload_n hx hb d_M_look_0 rfl (lv_at hl 1 rfl) ?_
  refine gx_cS (n := 1) (own := R_M) (As := [.int (nI (4096 + i))]) (rest := []) ⟨hx, hb, hml, hown, ht⟩ hg_all (c_M_isAddress l (nI (4096 + i))) wm_412 wm_413 wm_36 wm_414 ⟨rfl, by decide, by decide, by decide +kernel⟩ rfl ⟨rfl, rfl⟩ ⟨by decide, by decide⟩ ⟨by decide, by decide⟩ hl.1 rfl (Nat.le_of_ble_eq_true rfl) d_M_look_1 ?_
  refine nx_if_ne_b (tgt := 9) hx hb d_M_look_4 (by decide) (fun h4 => ?_) (fun h4 => ?_)
  · skip
    refine lv_aload_n hx hb d_M_look_9 rfl (lv_at hl 0 rfl) ?_
    refine lv_iload_n hx hb d_M_look_10 rfl (lv_at hl 1 rfl) ?_
    refine gx_cV (n := 1) (q0 := 0) (ci := 1) (q := (R_M, F_M, 11)) (C := R_M) (own := R_M) (As := [.int (nI (4096 + i))]) (rest := []) ⟨hx, hb, hml, hown, ht⟩ hg_all (c_M_objectAt_in l D ca hs (rt) (wd) (ob) (ln) (kd) (qt) (df) (mk) (th) (cn) (gv) i hi) wm_415 wm_416 wm_28 wm_36 wm_417 ⟨rfl, by decide, by decide, by decide +kernel⟩ rfl ⟨rfl, rfl⟩ ⟨by decide, by decide⟩ ⟨by decide, by decide⟩ hK hP hD rfl rfl rfl hl.1 rfl (Nat.le_of_ble_eq_true rfl) d_M_look_11 ?_
    rcases zs_ca (ob i) with ⟨hc, e9⟩ | ⟨p0, hc, e9⟩
    · skip
      refine nx_top e9 ?_
      refine lv_istore_n (lv' := [(2, .int (-1)), (0, .ref (hs 0)), (1, .int (nI (4096 + i)))]) hx hb d_M_look_14 rfl hl (by decide) rfl (fun ls hl => ?_)
      refine lv_iload_n hx hb d_M_look_15 rfl (lv_at hl 0 rfl) ?_
      refine lv_if_ge (tgt := 59) hx hb d_M_look_16 (by decide) (fun h => absurd h (by decide)) (fun _ => ?_)
      refine lv_iload_n hx hb d_M_look_19 rfl (lv_at hl 2 rfl) ?_
      refine lv_sipush (v := nI 4096) hx hb d_M_look_20 (by decide +kernel) ?_
      refine nx_isub hx hb d_M_look_23 (by omega) ?_
      refine nx_top s4_e ?_
      refine lv_bipush (v := nI 32) hx hb d_M_look_24 (by decide +kernel) ?_
      refine nx_idiv hx hb d_M_look_26 (by omega) (by omega) (by omega) ?_
      refine lv_istore_n (lv' := [(3, .int (nI (i / 32))), (2, .int (-1)), (0, .ref (hs 0)), (1, .int (nI (4096 + i)))]) hx hb d_M_look_27 rfl hl (by decide) rfl (fun ls hl => ?_)
      refine lv_aload_n hx hb d_M_look_28 rfl (lv_at hl 2 rfl) ?_
      refine va_get (D := D) (ci := 1) (v := .ref (hs 8)) (C := R_M) (T := F_M) (N := 11) hx hb ht in_M hown hK hP 0 rfl rfl 8 (by decide) (ht _ wm_354) (fun _ h9 => h9) rfl d_M_look_29 ?_
      refine lv_iload_n hx hb d_M_look_32 rfl (lv_at hl 0 rfl) ?_
      refine lv_aload_n hx hb d_M_look_33 rfl (lv_at hl 2 rfl) ?_
      refine va_get (D := D) (ci := 1) (v := .ref (hs 8)) (C := R_M) (T := F_M) (N := 11) hx hb ht in_M hown hK hP 0 rfl rfl 8 (by decide) (ht _ wm_354) (fun _ h9 => h9) rfl d_M_look_34 ?_
      refine lv_iload_n hx hb d_M_look_37 rfl (lv_at hl 0 rfl) ?_
      refine nx_zald hx hb hK hP 8 7 zb_e df rfl rfl (i / 32) (by omega) (by decide) d_M_look_38 ?_
      refine nx_if_ne_b (tgt := 51) hx hb d_M_look_39 (by decide) (fun h39 => ?_) (fun h39 => ?_)
      · skip
        refine lv_iconst (v := zb_e true) hx hb d_M_look_51 (by decide +kernel) ?_
        refine lv_goto (tgt := 56) hx hb d_M_look_52 (by decide) ?_
        refine nx_zast hx hb hK hP hD hS 8 7 df rfl rfl (i / 32) true (by omega) (by decide) d_M_look_56 (fun H locs hP hD hS => ?_)
        have hP : va_P D cl_all (gw_M ca hs rt wd ob ln kd qt (va_up df (i / 32) true) mk th cn gv) H := hP
        have hD : va_D (gx_A hs 9) (gw_M ca hs rt wd ob ln kd qt (va_up df (i / 32) true) mk th cn gv) := hD
        refine lv_iconst (v := zb_e false) hx hb d_M_look_57 (by decide +kernel) ?_
        refine hret 58 ls (false) _ _ _ d_M_look_58 hP hS ?_ ?_
        · exact gw_M_adr.trans gw_M_adr.symm
        · exact ⟨_, rfl, _, _, rfl, (by
            by_cases hz : kd (i / 32) = 0
            · exact (by have := mk_dbt hmi (ad_i hi).1 (by rw [(ad_i hi).2]; exact hc) (by rw [(ad_i hi).2]; exact hz); rwa [(ad_i hi).2] at this)
            · exact mk_ix (mk_no hmi ((oa_i ob hi).trans hc) (fun b hb => hz (by have := hb.2.2.1; rwa [(ad_i hi).2] at this))) (fun _ => rfl) (fun q => congrFun (up_id h39) q) (fun _ => Iff.rfl)), (fun q => by cases q), fun _ => rfl, fun _ q => q⟩
      · skip
        refine lv_aload_n hx hb d_M_look_42 rfl (lv_at hl 2 rfl) ?_
        refine va_get (D := D) (ci := 1) (v := .ref (hs 7)) (C := R_M) (T := F_M) (N := 11) hx hb ht in_M hown hK hP 0 rfl rfl 7 (by decide) (ht _ wm_353) (fun _ h9 => h9) rfl d_M_look_43 ?_
        refine lv_iload_n hx hb d_M_look_46 rfl (lv_at hl 0 rfl) ?_
        refine nx_iald hx hb hK hP 7 6 nI kd rfl rfl (i / 32) (by omega) (by decide) d_M_look_47 ?_
        refine nx_if_ne (tgt := 55) hx hb d_M_look_48 (by decide) (by have := hk (i / 32) (by omega); omega) (fun h48 => ?_) (fun h48 => ?_)
        · skip
          refine lv_iconst (v := zb_e false) hx hb d_M_look_55 (by decide +kernel) ?_
          refine nx_zast hx hb hK hP hD hS 8 7 df rfl rfl (i / 32) false (by omega) (by decide) d_M_look_56 (fun H locs hP hD hS => ?_)
          have hP : va_P D cl_all (gw_M ca hs rt wd ob ln kd qt (va_up df (i / 32) false) mk th cn gv) H := hP
          have hD : va_D (gx_A hs 9) (gw_M ca hs rt wd ob ln kd qt (va_up df (i / 32) false) mk th cn gv) := hD
          refine lv_iconst (v := zb_e false) hx hb d_M_look_57 (by decide +kernel) ?_
          refine hret 58 ls (false) _ _ _ d_M_look_58 hP hS ?_ ?_
          · exact gw_M_adr.trans gw_M_adr.symm
          · exact ⟨_, rfl, _, _, rfl, mk_ix (mk_no hmi ((oa_i ob hi).trans hc) (fun b hb => h48 (by have := hb.2.2.1; rwa [(ad_i hi).2] at this))) (fun _ => rfl) (fun q => congrFun (up_id h39) q) (fun _ => Iff.rfl), (fun q => by cases q), fun _ => rfl, fun _ q => q⟩
        · skip
          refine lv_iconst (v := zb_e true) hx hb d_M_look_51 (by decide +kernel) ?_
          refine lv_goto (tgt := 56) hx hb d_M_look_52 (by decide) ?_
          refine nx_zast hx hb hK hP hD hS 8 7 df rfl rfl (i / 32) true (by omega) (by decide) d_M_look_56 (fun H locs hP hD hS => ?_)
          have hP : va_P D cl_all (gw_M ca hs rt wd ob ln kd qt (va_up df (i / 32) true) mk th cn gv) H := hP
          have hD : va_D (gx_A hs 9) (gw_M ca hs rt wd ob ln kd qt (va_up df (i / 32) true) mk th cn gv) := hD
          refine lv_iconst (v := zb_e false) hx hb d_M_look_57 (by decide +kernel) ?_
          refine hret 58 ls (false) _ _ _ d_M_look_58 hP hS ?_ ?_
          · exact gw_M_adr.trans gw_M_adr.symm
          · exact ⟨_, rfl, _, _, rfl, (by have := mk_dbt hmi (ad_i hi).1 (by rw [(ad_i hi).2]; exact hc) (by rw [(ad_i hi).2]; exact h48); rwa [(ad_i hi).2] at this), (fun q => by cases q), fun _ => rfl, fun _ q => q⟩
    · skip
      obtain ⟨hp, hpo, -, hpe, -⟩ := iv_st hov hi hc
      refine nx_top e9 ?_
      refine lv_istore_n (lv' := [(2, .int (nI p0)), (0, .ref (hs 0)), (1, .int (nI (4096 + i)))]) hx hb d_M_look_14 rfl hl (by decide) rfl (fun ls hl => ?_)
      refine lv_iload_n hx hb d_M_look_15 rfl (lv_at hl 0 rfl) ?_
      refine lv_if_ge (tgt := 59) hx hb d_M_look_16 (by decide) (fun _ => ?_) (fun h => absurd (nI_pos' (by omega)) h)
      refine lv_aload_n hx hb d_M_look_59 rfl (lv_at hl 1 rfl) ?_
      refine va_get (D := D) (ci := 1) (v := .ref (hs 6)) (C := R_M) (T := F_M) (N := 11) hx hb ht in_M hown hK hP 0 rfl rfl 6 (by decide) (ht _ wm_352) (fun _ h9 => h9) rfl d_M_look_60 ?_
      refine lv_iload_n hx hb d_M_look_63 rfl (lv_at hl 0 rfl) ?_
      refine nx_zald hx hb hK hP 6 5 zb_e mk rfl rfl p0 (by omega) (by decide) d_M_look_64 ?_
      refine nx_if_ne_b (tgt := 72) hx hb d_M_look_65 (by decide) (fun h65 => ?_) (fun h65 => ?_)
      · skip
        refine lv_iconst (v := zb_e false) hx hb d_M_look_72 (by decide +kernel) ?_
        refine lv_istore_n (lv' := [(3, .int (zb_e false)), (2, .int (nI p0)), (0, .ref (hs 0)), (1, .int (nI (4096 + i)))]) hx hb d_M_look_73 rfl hl (by decide) rfl (fun ls hl => ?_)
        refine lv_aload_n hx hb d_M_look_74 rfl (lv_at hl 2 rfl) ?_
        refine va_get (D := D) (ci := 1) (v := .ref (hs 6)) (C := R_M) (T := F_M) (N := 11) hx hb ht in_M hown hK hP 0 rfl rfl 6 (by decide) (ht _ wm_352) (fun _ h9 => h9) rfl d_M_look_75 ?_
        refine lv_iload_n hx hb d_M_look_78 rfl (lv_at hl 1 rfl) ?_
        refine lv_iconst (v := zb_e true) hx hb d_M_look_79 (by decide +kernel) ?_
        refine nx_zast hx hb hK hP hD hS 6 5 mk rfl rfl p0 true (by omega) (by decide) d_M_look_80 (fun H locs hP hD hS => ?_)
        have hP : va_P D cl_all (gw_M ca hs rt wd ob ln kd qt df (va_up mk p0 true) th cn gv) H := hP
        have hD : va_D (gx_A hs 9) (gw_M ca hs rt wd ob ln kd qt df (va_up mk p0 true) th cn gv) := hD
        refine lv_iload_n hx hb d_M_look_81 rfl (lv_at hl 0 rfl) ?_
        refine hret 82 ls (false) _ _ _ d_M_look_82 hP hS ?_ ?_
        · exact gw_M_adr.trans gw_M_adr.symm
        · exact ⟨_, rfl, _, _, rfl, mk_ix (mk_had hmi ((oa_i ob hi).trans hc) h65) (fun q => congrFun (up_id h65) q) (fun _ => rfl) (fun _ => Iff.rfl), (fun q => by cases q), fun _ => up_id h65, fun q hq => by rw [up_id h65]; exact hq⟩
      · skip
        refine lv_iconst (v := zb_e true) hx hb d_M_look_68 (by decide +kernel) ?_
        refine lv_goto (tgt := 73) hx hb d_M_look_69 (by decide) ?_
        refine lv_istore_n (lv' := [(3, .int (zb_e true)), (2, .int (nI p0)), (0, .ref (hs 0)), (1, .int (nI (4096 + i)))]) hx hb d_M_look_73 rfl hl (by decide) rfl (fun ls hl => ?_)
        refine lv_aload_n hx hb d_M_look_74 rfl (lv_at hl 2 rfl) ?_
        refine va_get (D := D) (ci := 1) (v := .ref (hs 6)) (C := R_M) (T := F_M) (N := 11) hx hb ht in_M hown hK hP 0 rfl rfl 6 (by decide) (ht _ wm_352) (fun _ h9 => h9) rfl d_M_look_75 ?_
        refine lv_iload_n hx hb d_M_look_78 rfl (lv_at hl 1 rfl) ?_
        refine lv_iconst (v := zb_e true) hx hb d_M_look_79 (by decide +kernel) ?_
        refine nx_zast hx hb hK hP hD hS 6 5 mk rfl rfl p0 true (by omega) (by decide) d_M_look_80 (fun H locs hP hD hS => ?_)
        have hP : va_P D cl_all (gw_M ca hs rt wd ob ln kd qt df (va_up mk p0 true) th cn gv) H := hP
        have hD : va_D (gx_A hs 9) (gw_M ca hs rt wd ob ln kd qt df (va_up mk p0 true) th cn gv) := hD
        refine lv_iload_n hx hb d_M_look_81 rfl (lv_at hl 0 rfl) ?_
        refine hret 82 ls (true) _ _ _ d_M_look_82 hP hS ?_ ?_
        · exact gw_M_adr.trans gw_M_adr.symm
        · exact ⟨_, rfl, _, _, rfl, mk_hit hmi ((oa_i ob hi).trans hc), fun _ => ⟨p0, by omega, h65, va_up_self _ _ _⟩, (fun q => by cases q), fun q hq => by
            by_cases e : q = p0
            · rw [e, va_up_self]
            · rw [va_up_ne _ _ e]
              exact hq⟩
  · skip
    rw [(ad_i hi).1] at h4
    cases h4

set_option maxHeartbeats 4000000 in
set_option maxRecDepth 100000 in
theorem c_M_look_out (l : Launch) (D : va_G) (ca : Nat → ClassId) (hs : Nat → Nat) (rt : Nat → Int32) (wd : Nat → Int32) (ob : Nat → Nat) (ln : Nat → Nat) (kd : Nat → Nat) (qt : Nat → Bool) (df : Nat → Bool) (mk : Nat → Bool) (th : Nat) (cn : Nat) (gv : Nat) (hov : iv_o ob ln kd) (hk : ∀ b, b < 16 → kd b < 34) (P : Int32 → Prop) (hmi : mk_i ob kd mk df P) (w : Int32) (hw : ad_b w = false) : Met l y_M_look (Cond.code y_M_look b_M_look 4 (some .boolean) :: wa_all) (rm_d 2) (va_Pc [.ref (hs 0), .int (w)] (gx_I D cl_all (ty_M ca) (gw_M ca hs rt wd ob ln kd qt df mk th cn gv))) (gx_Q D cl_all (gx_A hs 9) (gw_M ca hs rt wd ob ln kd qt df mk th cn gv) (fun v w' => ∃ fr : Bool, v = some (.int (zb_e fr)) ∧ ∃ (df2 mk2 : Nat → Bool), w' = gw_M ca hs rt wd ob ln kd qt df2 mk2 th cn gv ∧ mk_i ob kd mk2 df2 (fun v => P v ∨ v = w) ∧ (fr = true → ∃ p, p < 512 ∧ mk p = false ∧ mk2 p = true) ∧ (fr = false → mk2 = mk) ∧ (∀ p, mk p = true → mk2 p = true))) 0 0 (gx_A hs 9) := by
  refine gx_mutZ (by decide) (Nat.le_of_ble_eq_true rfl) gw_M_in ?_
  intro p e s m args below meth c ls Q hx hb hml ht hown hret hP hK hD hS hl
  have hl : lv_has ls 4 [(0, .ref (hs 0)), (1, .int (w))] := hl
  have hown : s.vm.findClass R_M = some m.cls := hown
  have hP : va_P D cl_all (gw_M ca hs rt wd ob ln kd qt df mk th cn gv) s.heap := hP
  refine lv_iload_n hx hb d_M_look_0 rfl (lv_at hl 1 rfl) ?_
  refine gx_cS (n := 1) (own := R_M) (As := [.int (w)]) (rest := []) ⟨hx, hb, hml, hown, ht⟩ hg_all (c_M_isAddress l (w)) wm_412 wm_413 wm_36 wm_414 ⟨rfl, by decide, by decide, by decide +kernel⟩ rfl ⟨rfl, rfl⟩ ⟨by decide, by decide⟩ ⟨by decide, by decide⟩ hl.1 rfl (Nat.le_of_ble_eq_true rfl) d_M_look_1 ?_
  refine nx_if_ne_b (tgt := 9) hx hb d_M_look_4 (by decide) (fun h4 => ?_) (fun h4 => ?_)
  · skip
    rw [hw] at h4
    cases h4
  · skip
    refine lv_iconst (v := zb_e false) hx hb d_M_look_7 (by decide +kernel) ?_
    refine hret 8 ls (false) _ _ _ d_M_look_8 hP hS ?_ ?_
    · exact gw_M_adr.trans gw_M_adr.symm
    · exact ⟨_, rfl, _, _, rfl, mk_na hmi hw, (fun q => by cases q), fun _ => rfl, fun _ q => q⟩

theorem c_M_look (l : Launch) (D : va_G) (ca : Nat → ClassId) (hs : Nat → Nat) (rt : Nat → Int32) (wd : Nat → Int32) (ob : Nat → Nat) (ln : Nat → Nat) (kd : Nat → Nat) (qt : Nat → Bool) (df : Nat → Bool) (mk : Nat → Bool) (th : Nat) (cn : Nat) (gv : Nat) (hov : iv_o ob ln kd) (hk : ∀ b, b < 16 → kd b < 34) (P : Int32 → Prop) (hmi : mk_i ob kd mk df P) (w : Int32) : Met l y_M_look (Cond.code y_M_look b_M_look 4 (some .boolean) :: wa_all) (rm_d 2) (va_Pc [.ref (hs 0), .int w] (gx_I D cl_all (ty_M ca) (gw_M ca hs rt wd ob ln kd qt df mk th cn gv))) (gx_Q D cl_all (gx_A hs 9) (gw_M ca hs rt wd ob ln kd qt df mk th cn gv) (fun v w' => ∃ fr : Bool, v = some (.int (zb_e fr)) ∧ ∃ (df2 mk2 : Nat → Bool), w' = gw_M ca hs rt wd ob ln kd qt df2 mk2 th cn gv ∧ mk_i ob kd mk2 df2 (fun v => P v ∨ v = w) ∧ (fr = true → ∃ p, p < 512 ∧ mk p = false ∧ mk2 p = true) ∧ (fr = false → mk2 = mk) ∧ (∀ p, mk p = true → mk2 p = true))) 0 0 (gx_A hs 9) := by
  cases hw : ad_b w with
  | false => exact c_M_look_out l D ca hs rt wd ob ln kd qt df mk th cn gv hov hk P hmi w hw
  | true =>
    obtain ⟨hi, e⟩ := ad_l hw
    have h := c_M_look_in l D ca hs rt wd ob ln kd qt df mk th cn gv hov hk P hmi (ad_x w) hi
    rw [← e] at h
    exact h
set_option maxHeartbeats 4000000 in
set_option maxRecDepth 100000 in
theorem c_M_lookAtAll (l : Launch) (D : va_G) (ca : Nat → ClassId) (hs : Nat → Nat) (rt : Nat → Int32) (wd : Nat → Int32) (ob : Nat → Nat) (ln : Nat → Nat) (kd : Nat → Nat) (qt : Nat → Bool) (df : Nat → Bool) (mk : Nat → Bool) (th : Nat) (cn : Nat) (gv : Nat) (hov : iv_o ob ln kd) (hk : ∀ b, b < 16 → kd b < 34) (P : Int32 → Prop) (hmi : mk_i ob kd mk df P) (hsn : ∀ w, P w → mk_s rt wd ln qt (mk_r rt wd ob ln qt) w) : Met l y_M_lookAtAll (Cond.code y_M_lookAtAll b_M_lookAtAll 5 (some .boolean) :: wa_all) (rm_d 3) (va_Pc [.ref (hs 0)] (gx_I D cl_all (ty_M ca) (gw_M ca hs rt wd ob ln kd qt df mk th cn gv))) (gx_Q D cl_all (gx_A hs 9) (gw_M ca hs rt wd ob ln kd qt df mk th cn gv) (fun v w' => ∃ mo : Bool, v = some (.int (zb_e mo)) ∧ ∃ (df2 mk2 : Nat → Bool) (P2 : Int32 → Prop), w' = gw_M ca hs rt wd ob ln kd qt df2 mk2 th cn gv ∧ mk_i ob kd mk2 df2 P2 ∧ (∀ w, P2 w → mk_s rt wd ln qt (mk_r rt wd ob ln qt) w) ∧ (mo = true → ∃ p, p < 512 ∧ mk p = false ∧ mk2 p = true) ∧ (∀ p, mk p = true → mk2 p = true) ∧ (mo = false → ∀ w, mk_s rt wd ln qt (fun p => mk2 p = true) w → P2 w))) 0 0 (gx_A hs 9) := by
  refine gx_mutZ (by decide) (Nat.le_of_ble_eq_true rfl) gw_M_in ?_
  intro p e s m args below meth c ls Q hx hb hml ht hown hret hP hK hD hS hl
  have hl : lv_has ls 5 [(0, .ref (hs 0))] := hl
  have hown : s.vm.findClass R_M = some m.cls := hown
  have hP : va_P D cl_all (gw_M ca hs rt wd ob ln kd qt df mk th cn gv) s.heap := hP
  refine lv_iconst (v := zb_e false) hx hb d_M_lookAtAll_0 (by decide +kernel) ?_
  refine lv_istore_n (lv' := [(1, .int (zb_e false)), (0, .ref (hs 0))]) hx hb d_M_lookAtAll_1 rfl hl (by decide) rfl (fun ls hl => ?_)
  refine lv_iconst (v := nI 0) hx hb d_M_lookAtAll_2 (by decide +kernel) ?_
  refine lv_istore_n (lv' := [(2, .int (nI 0)), (1, .int (zb_e false)), (0, .ref (hs 0))]) hx hb d_M_lookAtAll_3 rfl hl (by decide) rfl (fun ls hl => ?_)
  have key4 : ∀ (n9 : Nat) (r : Nat) (mo : Bool) (df2 : Nat → Bool) (mk2 : Nat → Bool) (H : Heap) (locs : List Loc) (ls : Array Slot), 8 - r = n9 → r ≤ 8 → mk_i ob kd mk2 df2 (fun v => P v ∨ ∃ j, j < r ∧ v = (fun j => rt j) j) → (mo = true → ∃ p, p < 512 ∧ mk p = false ∧ mk2 p = true) → (mo = false → mk2 = mk) → (∀ p, mk p = true → mk2 p = true) → lv_has ls 5 [(0, .ref (hs 0)), (1, .int (zb_e mo)), (2, .int (nI r))] → va_P D cl_all (gw_M ca hs rt wd ob ln kd qt df2 mk2 th cn gv) H → va_D (gx_A hs 9) (gw_M ca hs rt wd ob ln kd qt df2 mk2 th cn gv) → va_S (gx_A hs 9) s.heap H locs → W p l e (rm_d 3) s m args below meth c H locs 0 0 Q (F0 m 4 ls []) := by
    intro n9
    induction n9 using Nat.strongRecOn with
    | ind n9 ih4 =>
      intro r mo df2 mk2 H locs ls hn4 hi hmi2 hg1 hg2 hg3 hl hP hD hS
      refine lv_iload_n hx hb d_M_lookAtAll_4 rfl (lv_at hl 2 rfl) ?_
      refine lv_bipush (v := nI 8) hx hb d_M_lookAtAll_5 (by decide +kernel) ?_
      refine nx_icmp_ge (tgt := 41) hx hb d_M_lookAtAll_7 (by decide) (by omega) (by omega) (fun h7 => ?_) (fun h7 => ?_)
      · skip
        refine lv_iconst (v := nI 0) hx hb d_M_lookAtAll_41 (by decide +kernel) ?_
        refine lv_istore_n (lv' := [(2, .int (nI 0)), (0, .ref (hs 0)), (1, .int (zb_e mo))]) hx hb d_M_lookAtAll_42 rfl hl (by decide) rfl (fun ls hl => ?_)
        have key43 : ∀ (n9 : Nat) (i : Nat) (mo : Bool) (df2 : Nat → Bool) (mk2 : Nat → Bool) (P2 : Int32 → Prop) (H : Heap) (locs : List Loc) (ls : Array Slot), 512 - i = n9 → i ≤ 512 → mk_i ob kd mk2 df2 P2 → (∀ w, P2 w → mk_s rt wd ln qt (mk_r rt wd ob ln qt) w) → (∀ r, r < 8 → P2 (rt r)) → (mo = false → ∀ j, j < i → ∀ q, ob j = q + 1 → mk q = true → qt q = false → P2 (wd j)) → (mo = true → ∃ p, p < 512 ∧ mk p = false ∧ mk2 p = true) → (mo = false → mk2 = mk) → (∀ p, mk p = true → mk2 p = true) → lv_has ls 5 [(0, .ref (hs 0)), (1, .int (zb_e mo)), (2, .int (nI i))] → va_P D cl_all (gw_M ca hs rt wd ob ln kd qt df2 mk2 th cn gv) H → va_D (gx_A hs 9) (gw_M ca hs rt wd ob ln kd qt df2 mk2 th cn gv) → va_S (gx_A hs 9) s.heap H locs → W p l e (rm_d 3) s m args below meth c H locs 0 0 Q (F0 m 43 ls []) := by
          intro n9
          induction n9 using Nat.strongRecOn with
          | ind n9 ih43 =>
            intro i mo df2 mk2 P2 H locs ls hn43 hi hmi2 hsn2 hrt2 hpr hg1 hg2 hg3 hl hP hD hS
            refine lv_iload_n hx hb d_M_lookAtAll_43 rfl (lv_at hl 2 rfl) ?_
            refine lv_sipush (v := nI 512) hx hb d_M_lookAtAll_44 (by decide +kernel) ?_
            refine nx_icmp_ge (tgt := 114) hx hb d_M_lookAtAll_47 (by decide) (by omega) (by omega) (fun h47 => ?_) (fun h47 => ?_)
            · skip
              have hcm : mo = false → ∀ w, mk_s rt wd ln qt (fun p => mk2 p = true) w → P2 w := by
                intro hmo w hw
                rcases hw with ⟨r, h1, rfl⟩ | ⟨q, j, h1, h2, h3, rfl⟩
                · exact hrt2 r h1
                · have h1 : mk2 q = true := h1
                  obtain ⟨w, hw, e⟩ := (hmi2.1 q).mp h1
                  have hq : ∃ i, i < 512 ∧ ob i = q + 1 := by
                    unfold oa_n at e
                    cases ha : ad_b w with
                    | false => rw [ha] at e; simp at e
                    | true => rw [ha] at e; exact ⟨ad_x w, (ad_l ha).1, e⟩
                  obtain ⟨i0, i1, i2⟩ := hq
                  obtain ⟨s1, s2, s3, s4, s5⟩ := iv_st hov i1 i2
                  have s6 := (hov q s1 q s2).2.2.2.2.1 (q + j) (by omega) (by omega)
                  rw [hg2 hmo] at h1
                  exact hpr hmo (q + j) (by omega) q s6 h1 h2
              refine lv_iload_n hx hb d_M_lookAtAll_114 rfl (lv_at hl 1 rfl) ?_
              refine hret 115 ls (mo) _ _ _ d_M_lookAtAll_115 hP hS ?_ ?_
              · exact gw_M_adr.trans gw_M_adr.symm
              · exact ⟨_, rfl, _, _, P2, rfl, hmi2, hsn2, hg1, hg3, hcm⟩
            · skip
              refine lv_aload_n hx hb d_M_lookAtAll_50 rfl (lv_at hl 0 rfl) ?_
              refine va_get (D := D) (ci := 1) (v := .ref (hs 3)) (C := R_M) (T := F_M) (N := 11) hx hb ht in_M hown hK hP 0 rfl rfl 3 (by decide) (ht _ wm_349) (fun _ h9 => h9) rfl d_M_lookAtAll_51 ?_
              refine lv_iload_n hx hb d_M_lookAtAll_54 rfl (lv_at hl 2 rfl) ?_
              refine nx_iald hx hb hK hP 3 2 nI ob rfl rfl i (by omega) (by decide) d_M_lookAtAll_55 ?_
              refine lv_iconst (v := nI 1) hx hb d_M_lookAtAll_56 (by decide +kernel) ?_
              refine lv_isub hx hb d_M_lookAtAll_57 ?_
              refine nx_top (zs_d (ob i)) ?_
              rcases zs_ca (ob i) with ⟨hc, e9⟩ | ⟨p0, hc, e9⟩
              · skip
                refine nx_top e9 ?_
                refine lv_istore_n (lv' := [(3, .int (-1)), (0, .ref (hs 0)), (1, .int (zb_e mo)), (2, .int (nI i))]) hx hb d_M_lookAtAll_58 rfl hl (by decide) rfl (fun ls hl => ?_)
                refine lv_iload_n hx hb d_M_lookAtAll_59 rfl (lv_at hl 0 rfl) ?_
                refine lv_if_lt (tgt := 108) hx hb d_M_lookAtAll_60 (by decide) (fun _ => ?_) (fun h => absurd (by decide) h)
                refine lv_iinc (k := 3) (v := nI (i + 1)) (lv' := [(2, .int (nI (i + 1))), (3, .int (-1)), (0, .ref (hs 0)), (1, .int (zb_e mo))]) hx hb d_M_lookAtAll_108 hl rfl (nx_inc1 _) (by decide) rfl (fun ls hl => ?_)
                refine lv_goto (tgt := 43) hx hb d_M_lookAtAll_111 (by decide) ?_
                exact ih43 _ (by omega) (i + 1) (mo) (df2) (mk2) (P2) _ _ _ rfl (by omega) (hmi2) (hsn2) (hrt2) (fun q9 j hj q e1 e2 e3 => by
                    by_cases e : j = i
                    · rw [e] at e1
                      omega
                    · exact hpr q9 j (by omega) q e1 e2 e3) (hg1) (hg2) (hg3) (lv_sub hl [2, 3, 0] rfl) hP hD hS
              · skip
                obtain ⟨hp, hpo, hpl, hpe, -⟩ := iv_st hov h47 hc
                refine nx_top e9 ?_
                refine lv_istore_n (lv' := [(3, .int (nI p0)), (0, .ref (hs 0)), (1, .int (zb_e mo)), (2, .int (nI i))]) hx hb d_M_lookAtAll_58 rfl hl (by decide) rfl (fun ls hl => ?_)
                refine lv_iload_n hx hb d_M_lookAtAll_59 rfl (lv_at hl 0 rfl) ?_
                refine lv_if_lt (tgt := 108) hx hb d_M_lookAtAll_60 (by decide) (fun h => absurd h (nI_pos (by omega))) (fun _ => ?_)
                refine lv_aload_n hx hb d_M_lookAtAll_63 rfl (lv_at hl 1 rfl) ?_
                refine va_get (D := D) (ci := 1) (v := .ref (hs 6)) (C := R_M) (T := F_M) (N := 11) hx hb ht in_M hown hK hP 0 rfl rfl 6 (by decide) (ht _ wm_352) (fun _ h9 => h9) rfl d_M_lookAtAll_64 ?_
                refine lv_iload_n hx hb d_M_lookAtAll_67 rfl (lv_at hl 0 rfl) ?_
                refine nx_zald hx hb hK hP 6 5 zb_e mk2 rfl rfl p0 (by omega) (by decide) d_M_lookAtAll_68 ?_
                refine nx_if_eq_b (tgt := 108) hx hb d_M_lookAtAll_69 (by decide) (fun h69 => ?_) (fun h69 => ?_)
                · skip
                  refine lv_iinc (k := 3) (v := nI (i + 1)) (lv' := [(2, .int (nI (i + 1))), (3, .int (nI p0)), (0, .ref (hs 0)), (1, .int (zb_e mo))]) hx hb d_M_lookAtAll_108 hl rfl (nx_inc1 _) (by decide) rfl (fun ls hl => ?_)
                  refine lv_goto (tgt := 43) hx hb d_M_lookAtAll_111 (by decide) ?_
                  exact ih43 _ (by omega) (i + 1) (mo) (df2) (mk2) (P2) _ _ _ rfl (by omega) (hmi2) (hsn2) (hrt2) (fun q9 j hj q e1 e2 e3 => by
                      by_cases e : j = i
                      · rw [e] at e1
                        have e4 : q = p0 := by omega
                        rw [e4] at e2
                        rw [hg2 q9, e2] at h69
                        cases h69
                      · exact hpr q9 j (by omega) q e1 e2 e3) (hg1) (hg2) (hg3) (lv_sub hl [2, 3, 0] rfl) hP hD hS
                · skip
                  refine lv_aload_n hx hb d_M_lookAtAll_72 rfl (lv_at hl 1 rfl) ?_
                  refine va_get (D := D) (ci := 1) (v := .ref (hs 5)) (C := R_M) (T := F_M) (N := 11) hx hb ht in_M hown hK hP 0 rfl rfl 5 (by decide) (ht _ wm_351) (fun _ h9 => h9) rfl d_M_lookAtAll_73 ?_
                  refine lv_iload_n hx hb d_M_lookAtAll_76 rfl (lv_at hl 0 rfl) ?_
                  refine nx_zald hx hb hK hP 5 4 zb_e qt rfl rfl p0 (by omega) (by decide) d_M_lookAtAll_77 ?_
                  refine nx_if_ne_b (tgt := 108) hx hb d_M_lookAtAll_78 (by decide) (fun h78 => ?_) (fun h78 => ?_)
                  · skip
                    refine lv_iinc (k := 3) (v := nI (i + 1)) (lv' := [(2, .int (nI (i + 1))), (3, .int (nI p0)), (0, .ref (hs 0)), (1, .int (zb_e mo))]) hx hb d_M_lookAtAll_108 hl rfl (nx_inc1 _) (by decide) rfl (fun ls hl => ?_)
                    refine lv_goto (tgt := 43) hx hb d_M_lookAtAll_111 (by decide) ?_
                    exact ih43 _ (by omega) (i + 1) (mo) (df2) (mk2) (P2) _ _ _ rfl (by omega) (hmi2) (hsn2) (hrt2) (fun q9 j hj q e1 e2 e3 => by
                        by_cases e : j = i
                        · rw [e] at e1
                          have e4 : q = p0 := by omega
                          rw [e4, h78] at e3
                          cases e3
                        · exact hpr q9 j (by omega) q e1 e2 e3) (hg1) (hg2) (hg3) (lv_sub hl [2, 3, 0] rfl) hP hD hS
                  · skip
                    obtain ⟨hp, hpo, hpl, hpe, -⟩ := iv_st hov h47 hc
                    have hrc : mk_r rt wd ob ln qt p0 := by
                      obtain ⟨w, hw, e⟩ := (hmi2.1 _).mp h69
                      exact mk_rc rt wd ob ln qt w _ (hsn2 w hw) e
                    have hsi : mk_s rt wd ln qt (mk_r rt wd ob ln qt) (wd i) := by
                      have hin := hov i h47 p0 hc
                      exact Or.inr ⟨p0, i - p0, hrc, h78, by omega, by rw [show p0 + (i - p0) = i by omega]⟩
                    refine lv_aload_n hx hb d_M_lookAtAll_81 rfl (lv_at hl 1 rfl) ?_
                    refine lv_aload_n hx hb d_M_lookAtAll_82 rfl (lv_at hl 1 rfl) ?_
                    refine va_get (D := D) (ci := 1) (v := .ref (hs 2)) (C := R_M) (T := F_M) (N := 11) hx hb ht in_M hown hK hP 0 rfl rfl 2 (by decide) (ht _ wm_348) (fun _ h9 => h9) rfl d_M_lookAtAll_83 ?_
                    refine lv_iload_n hx hb d_M_lookAtAll_86 rfl (lv_at hl 3 rfl) ?_
                    refine nx_rald hx hb hK hP 2 1 wd rfl rfl i (by omega) (by decide) d_M_lookAtAll_87 ?_
                    refine gx_cM (n := 1) (q0 := 0) (ci := 1) (q := (R_M, F_M, 11)) (C := R_M) (own := R_M) (As := [.int (wd i)]) (rest := []) ⟨hx, hb, hml, hown, ht⟩ hg_all (c_M_look l D ca hs (rt) (wd) (ob) (ln) (kd) (qt) (df2) (mk2) (th) (cn) (gv) hov hk (P2) hmi2 (wd i)) wm_409 wm_410 wm_27 wm_36 wm_411 ⟨rfl, by decide, by decide, by decide +kernel⟩ rfl ⟨rfl, rfl⟩ ⟨by decide, by decide⟩ ⟨by decide, by decide⟩ hK hP hD hS (fun _ h => h) rfl rfl rfl hl.1 rfl (Nat.le_of_ble_eq_true rfl) d_M_lookAtAll_88 (fun v w' H locs hZ hP hD hS _ _ => ?_)
                    obtain ⟨fr, rfl, df3, mk3, rfl, hmi3, hf1, hf2, hf3⟩ := hZ
                    have hP : va_P D cl_all (gw_M ca hs rt wd ob ln kd qt df3 mk3 th cn gv) H := hP
                    have hD : va_D (gx_A hs 9) (gw_M ca hs rt wd ob ln kd qt df3 mk3 th cn gv) := hD
                    refine lv_istore (lv' := [(4, .int (zb_e fr)), (3, .int (nI p0)), (0, .ref (hs 0)), (1, .int (zb_e mo)), (2, .int (nI i))]) hx hb d_M_lookAtAll_91 hl (by decide) rfl (fun ls hl => ?_)
                    refine lv_iload_n hx hb d_M_lookAtAll_93 rfl (lv_at hl 3 rfl) ?_
                    refine nx_if_ne_b (tgt := 102) hx hb d_M_lookAtAll_94 (by decide) (fun h94 => ?_) (fun h94 => ?_)
                    · skip
                      refine lv_iconst (v := zb_e true) hx hb d_M_lookAtAll_102 (by decide +kernel) ?_
                      refine lv_goto (tgt := 107) hx hb d_M_lookAtAll_103 (by decide) ?_
                      refine lv_istore_n (lv' := [(1, .int (zb_e true)), (4, .int (zb_e fr)), (3, .int (nI p0)), (0, .ref (hs 0)), (2, .int (nI i))]) hx hb d_M_lookAtAll_107 rfl hl (by decide) rfl (fun ls hl => ?_)
                      refine lv_iinc (k := 4) (v := nI (i + 1)) (lv' := [(2, .int (nI (i + 1))), (1, .int (zb_e true)), (4, .int (zb_e fr)), (3, .int (nI p0)), (0, .ref (hs 0))]) hx hb d_M_lookAtAll_108 hl rfl (nx_inc1 _) (by decide) rfl (fun ls hl => ?_)
                      refine lv_goto (tgt := 43) hx hb d_M_lookAtAll_111 (by decide) ?_
                      exact ih43 _ (by omega) (i + 1) (true) (df3) (mk3) (fun v => P2 v ∨ v = wd i) _ _ _ rfl (by omega) (hmi3) (fun w hw => hw.elim (hsn2 w) (fun e => by rw [e]; exact hsi)) (fun r hr => Or.inl (hrt2 r hr)) (fun q => by cases q) (fun _ => by obtain ⟨p9, a1, a2, a3⟩ := hg1 h94; exact ⟨p9, a1, a2, hf3 p9 a3⟩) (fun q => by cases q) (fun p9 hp => hf3 p9 (hg3 p9 hp)) (lv_sub hl [4, 1, 0] rfl) hP hD hS
                    · skip
                      refine lv_iload hx hb d_M_lookAtAll_97 (lv_at hl 0 rfl) ?_
                      refine nx_if_eq_b (tgt := 106) hx hb d_M_lookAtAll_99 (by decide) (fun h99 => ?_) (fun h99 => ?_)
                      · skip
                        refine lv_iconst (v := zb_e false) hx hb d_M_lookAtAll_106 (by decide +kernel) ?_
                        refine lv_istore_n (lv' := [(1, .int (zb_e false)), (4, .int (zb_e fr)), (3, .int (nI p0)), (0, .ref (hs 0)), (2, .int (nI i))]) hx hb d_M_lookAtAll_107 rfl hl (by decide) rfl (fun ls hl => ?_)
                        refine lv_iinc (k := 4) (v := nI (i + 1)) (lv' := [(2, .int (nI (i + 1))), (1, .int (zb_e false)), (4, .int (zb_e fr)), (3, .int (nI p0)), (0, .ref (hs 0))]) hx hb d_M_lookAtAll_108 hl rfl (nx_inc1 _) (by decide) rfl (fun ls hl => ?_)
                        refine lv_goto (tgt := 43) hx hb d_M_lookAtAll_111 (by decide) ?_
                        exact ih43 _ (by omega) (i + 1) (false) (df3) (mk3) (fun v => P2 v ∨ v = wd i) _ _ _ rfl (by omega) (hmi3) (fun w hw => hw.elim (hsn2 w) (fun e => by rw [e]; exact hsi)) (fun r hr => Or.inl (hrt2 r hr)) (fun q9 j hj q e1 e2 e3 => by
                            by_cases e : j = i
                            · rw [e]
                              exact Or.inr rfl
                            · exact Or.inl (hpr h94 j (by omega) q e1 e2 e3)) (fun q => by cases q) (fun _ => (hf2 h99).trans (hg2 h94)) (fun p9 hp => hf3 p9 (hg3 p9 hp)) (lv_sub hl [4, 1, 0] rfl) hP hD hS
                      · skip
                        refine lv_iconst (v := zb_e true) hx hb d_M_lookAtAll_102 (by decide +kernel) ?_
                        refine lv_goto (tgt := 107) hx hb d_M_lookAtAll_103 (by decide) ?_
                        refine lv_istore_n (lv' := [(1, .int (zb_e true)), (4, .int (zb_e fr)), (3, .int (nI p0)), (0, .ref (hs 0)), (2, .int (nI i))]) hx hb d_M_lookAtAll_107 rfl hl (by decide) rfl (fun ls hl => ?_)
                        refine lv_iinc (k := 4) (v := nI (i + 1)) (lv' := [(2, .int (nI (i + 1))), (1, .int (zb_e true)), (4, .int (zb_e fr)), (3, .int (nI p0)), (0, .ref (hs 0))]) hx hb d_M_lookAtAll_108 hl rfl (nx_inc1 _) (by decide) rfl (fun ls hl => ?_)
                        refine lv_goto (tgt := 43) hx hb d_M_lookAtAll_111 (by decide) ?_
                        exact ih43 _ (by omega) (i + 1) (true) (df3) (mk3) (fun v => P2 v ∨ v = wd i) _ _ _ rfl (by omega) (hmi3) (fun w hw => hw.elim (hsn2 w) (fun e => by rw [e]; exact hsi)) (fun r hr => Or.inl (hrt2 r hr)) (fun q => by cases q) (fun _ => by obtain ⟨p9, a1, a2, a3⟩ := hf1 h99; rw [hg2 h94] at a2; exact ⟨p9, a1, a2, a3⟩) (fun q => by cases q) (fun p9 hp => hf3 p9 (hg3 p9 hp)) (lv_sub hl [4, 1, 0] rfl) hP hD hS
        exact key43 _ (0) (mo) (df2) (mk2) (fun v => P v ∨ ∃ j, j < r ∧ v = (fun j => rt j) j) _ _ _ rfl (Nat.zero_le _) (hmi2) (fun w hw => hw.elim (hsn w) (fun ⟨j, h1, h2⟩ => Or.inl ⟨j, by omega, h2⟩)) (fun j hj => Or.inr ⟨j, by omega, rfl⟩) (fun _ j hj => absurd hj (Nat.not_lt_zero _)) (hg1) (hg2) (hg3) (lv_sub hl [1, 2, 0] rfl) hP hD hS
      · skip
        refine lv_aload_n hx hb d_M_lookAtAll_10 rfl (lv_at hl 0 rfl) ?_
        refine lv_aload_n hx hb d_M_lookAtAll_11 rfl (lv_at hl 0 rfl) ?_
        refine va_get (D := D) (ci := 1) (v := .ref (hs 1)) (C := R_M) (T := F_M) (N := 11) hx hb ht in_M hown hK hP 0 rfl rfl 1 (by decide) (ht _ wm_347) (fun _ h9 => h9) rfl d_M_lookAtAll_12 ?_
        refine lv_iload_n hx hb d_M_lookAtAll_15 rfl (lv_at hl 2 rfl) ?_
        refine nx_rald hx hb hK hP 1 0 rt rfl rfl r (by omega) (by decide) d_M_lookAtAll_16 ?_
        refine gx_cM (n := 1) (q0 := 0) (ci := 1) (q := (R_M, F_M, 11)) (C := R_M) (own := R_M) (As := [.int (rt r)]) (rest := []) ⟨hx, hb, hml, hown, ht⟩ hg_all (c_M_look l D ca hs (rt) (wd) (ob) (ln) (kd) (qt) (df2) (mk2) (th) (cn) (gv) hov hk (fun v => P v ∨ ∃ j, j < r ∧ v = (fun j => rt j) j) hmi2 (rt r)) wm_409 wm_410 wm_27 wm_36 wm_411 ⟨rfl, by decide, by decide, by decide +kernel⟩ rfl ⟨rfl, rfl⟩ ⟨by decide, by decide⟩ ⟨by decide, by decide⟩ hK hP hD hS (fun _ h => h) rfl rfl rfl hl.1 rfl (Nat.le_of_ble_eq_true rfl) d_M_lookAtAll_17 (fun v w' H locs hZ hP hD hS _ _ => ?_)
        obtain ⟨fr, rfl, df3, mk3, rfl, hmi3, hf1, hf2, hf3⟩ := hZ
        have hP : va_P D cl_all (gw_M ca hs rt wd ob ln kd qt df3 mk3 th cn gv) H := hP
        have hD : va_D (gx_A hs 9) (gw_M ca hs rt wd ob ln kd qt df3 mk3 th cn gv) := hD
        refine lv_istore_n (lv' := [(3, .int (zb_e fr)), (0, .ref (hs 0)), (1, .int (zb_e mo)), (2, .int (nI r))]) hx hb d_M_lookAtAll_20 rfl hl (by decide) rfl (fun ls hl => ?_)
        refine lv_iload_n hx hb d_M_lookAtAll_21 rfl (lv_at hl 2 rfl) ?_
        refine nx_if_ne_b (tgt := 29) hx hb d_M_lookAtAll_22 (by decide) (fun h22 => ?_) (fun h22 => ?_)
        · skip
          refine lv_iconst (v := zb_e true) hx hb d_M_lookAtAll_29 (by decide +kernel) ?_
          refine lv_goto (tgt := 34) hx hb d_M_lookAtAll_30 (by decide) ?_
          refine lv_istore_n (lv' := [(1, .int (zb_e true)), (3, .int (zb_e fr)), (0, .ref (hs 0)), (2, .int (nI r))]) hx hb d_M_lookAtAll_34 rfl hl (by decide) rfl (fun ls hl => ?_)
          refine lv_iinc (k := 3) (v := nI (r + 1)) (lv' := [(2, .int (nI (r + 1))), (1, .int (zb_e true)), (3, .int (zb_e fr)), (0, .ref (hs 0))]) hx hb d_M_lookAtAll_35 hl rfl (nx_inc1 _) (by decide) rfl (fun ls hl => ?_)
          refine lv_goto (tgt := 4) hx hb d_M_lookAtAll_38 (by decide) ?_
          exact ih4 _ (by omega) (r + 1) (true) (df3) (mk3) _ _ _ rfl (by omega) (mk_ix hmi3 (fun _ => rfl) (fun _ => rfl) (fun w => pe_s (f := fun j => rt j) w)) (fun _ => by obtain ⟨p9, a1, a2, a3⟩ := hg1 h22; exact ⟨p9, a1, a2, hf3 p9 a3⟩) (fun q => by cases q) (fun p9 hp => hf3 p9 (hg3 p9 hp)) (lv_sub hl [3, 1, 0] rfl) hP hD hS
        · skip
          refine lv_iload_n hx hb d_M_lookAtAll_25 rfl (lv_at hl 0 rfl) ?_
          refine nx_if_eq_b (tgt := 33) hx hb d_M_lookAtAll_26 (by decide) (fun h26 => ?_) (fun h26 => ?_)
          · skip
            refine lv_iconst (v := zb_e false) hx hb d_M_lookAtAll_33 (by decide +kernel) ?_
            refine lv_istore_n (lv' := [(1, .int (zb_e false)), (3, .int (zb_e fr)), (0, .ref (hs 0)), (2, .int (nI r))]) hx hb d_M_lookAtAll_34 rfl hl (by decide) rfl (fun ls hl => ?_)
            refine lv_iinc (k := 3) (v := nI (r + 1)) (lv' := [(2, .int (nI (r + 1))), (1, .int (zb_e false)), (3, .int (zb_e fr)), (0, .ref (hs 0))]) hx hb d_M_lookAtAll_35 hl rfl (nx_inc1 _) (by decide) rfl (fun ls hl => ?_)
            refine lv_goto (tgt := 4) hx hb d_M_lookAtAll_38 (by decide) ?_
            exact ih4 _ (by omega) (r + 1) (false) (df3) (mk3) _ _ _ rfl (by omega) (mk_ix hmi3 (fun _ => rfl) (fun _ => rfl) (fun w => pe_s (f := fun j => rt j) w)) (fun q => by cases q) (fun _ => (hf2 h26).trans (hg2 h22)) (fun p9 hp => hf3 p9 (hg3 p9 hp)) (lv_sub hl [3, 1, 0] rfl) hP hD hS
          · skip
            refine lv_iconst (v := zb_e true) hx hb d_M_lookAtAll_29 (by decide +kernel) ?_
            refine lv_goto (tgt := 34) hx hb d_M_lookAtAll_30 (by decide) ?_
            refine lv_istore_n (lv' := [(1, .int (zb_e true)), (3, .int (zb_e fr)), (0, .ref (hs 0)), (2, .int (nI r))]) hx hb d_M_lookAtAll_34 rfl hl (by decide) rfl (fun ls hl => ?_)
            refine lv_iinc (k := 3) (v := nI (r + 1)) (lv' := [(2, .int (nI (r + 1))), (1, .int (zb_e true)), (3, .int (zb_e fr)), (0, .ref (hs 0))]) hx hb d_M_lookAtAll_35 hl rfl (nx_inc1 _) (by decide) rfl (fun ls hl => ?_)
            refine lv_goto (tgt := 4) hx hb d_M_lookAtAll_38 (by decide) ?_
            exact ih4 _ (by omega) (r + 1) (true) (df3) (mk3) _ _ _ rfl (by omega) (mk_ix hmi3 (fun _ => rfl) (fun _ => rfl) (fun w => pe_s (f := fun j => rt j) w)) (fun _ => by obtain ⟨p9, a1, a2, a3⟩ := hf1 h26; rw [hg2 h22] at a2; exact ⟨p9, a1, a2, a3⟩) (fun q => by cases q) (fun p9 hp => hf3 p9 (hg3 p9 hp)) (lv_sub hl [3, 1, 0] rfl) hP hD hS
  exact key4 _ (0) (false) (df) (mk) _ _ _ rfl (Nat.zero_le _) (mk_ix hmi (fun _ => rfl) (fun _ => rfl) (fun w => pe_0 (f := fun j => rt j) w)) (fun q => by cases q) (fun _ => rfl) (fun _ q => q) (lv_sub hl [2, 1, 0] rfl) hP hD hS

set_option maxHeartbeats 4000000 in
set_option maxRecDepth 100000 in
theorem c_M_giveUp (l : Launch) (D : va_G) (ca : Nat → ClassId) (hs : Nat → Nat) (rt : Nat → Int32) (wd : Nat → Int32) (ob : Nat → Nat) (ln : Nat → Nat) (kd : Nat → Nat) (qt : Nat → Bool) (df : Nat → Bool) (mk : Nat → Bool) (th : Nat) (cn : Nat) (gv : Nat) (a0 : Nat) (ha0 : a0 < 512) (hal : a0 + ln a0 ≤ 512) (hk : ∀ b, b < 16 → kd b < 34) : Met l y_M_giveUp (Cond.code y_M_giveUp b_M_giveUp 4 none :: wa_all) (rm_d 0) (va_Pc [.ref (hs 0), .int (nI a0)] (gx_I D cl_all (ty_M ca) (gw_M ca hs rt wd ob ln kd qt df mk th cn gv))) (gx_Q D cl_all (gx_A hs 9) (gw_M ca hs rt wd ob ln kd qt df mk th cn gv) (fun v w' => v = none ∧ w' = gw_M ca hs rt (rz_f wd a0 (a0 + ln a0) 0) (rz_f ob a0 (a0 + ln a0) 0) ln (kz_f kd a0 (ln a0)) qt df mk th cn (gv + 1))) 0 0 (gx_A hs 9) := by
  refine gx_mutV (by decide) (Nat.le_of_ble_eq_true rfl) gw_M_in ?_
  intro p e s m args below meth c ls Q hx hb hml ht hown hret hP hK hD hS hl
  have hl : lv_has ls 4 [(0, .ref (hs 0)), (1, .int (nI a0))] := hl
  have hown : s.vm.findClass R_M = some m.cls := hown
  have hP : va_P D cl_all (gw_M ca hs rt wd ob ln kd qt df mk th cn gv) s.heap := hP
  refine lv_aload_n hx hb d_M_giveUp_0 rfl (lv_at hl 0 rfl) ?_
  refine va_get (D := D) (ci := 1) (v := .ref (hs 4)) (C := R_M) (T := F_M) (N := 11) hx hb ht in_M hown hK hP 0 rfl rfl 4 (by decide) (ht _ wm_350) (fun _ h9 => h9) rfl d_M_giveUp_1 ?_
  refine lv_iload_n hx hb d_M_giveUp_4 rfl (lv_at hl 1 rfl) ?_
  refine nx_iald hx hb hK hP 4 3 nI ln rfl rfl a0 (by omega) (by decide) d_M_giveUp_5 ?_
  refine lv_istore_n (lv' := [(2, .int (nI (ln a0))), (0, .ref (hs 0)), (1, .int (nI a0))]) hx hb d_M_giveUp_6 rfl hl (by decide) rfl (fun ls hl => ?_)
  rw [rz_0 wd a0 0, rz_0 ob a0 0] at hP hD
  refine lv_iload_n hx hb d_M_giveUp_7 rfl (lv_at hl 2 rfl) ?_
  refine lv_istore_n (lv' := [(3, .int (nI a0)), (2, .int (nI (ln a0))), (0, .ref (hs 0)), (1, .int (nI a0))]) hx hb d_M_giveUp_8 rfl hl (by decide) rfl (fun ls hl => ?_)
  have key9 : ∀ (n9 : Nat) (x : Nat) (H : Heap) (locs : List Loc) (ls : Array Slot), a0 + ln a0 - x = n9 → a0 ≤ x → x ≤ a0 + ln a0 → lv_has ls 4 [(0, .ref (hs 0)), (1, .int (nI a0)), (2, .int (nI (ln a0))), (3, .int (nI x))] → va_P D cl_all (gw_M ca hs rt (rz_f wd a0 x 0) (rz_f ob a0 x 0) ln kd qt df mk th cn gv) H → va_D (gx_A hs 9) (gw_M ca hs rt (rz_f wd a0 x 0) (rz_f ob a0 x 0) ln kd qt df mk th cn gv) → va_S (gx_A hs 9) s.heap H locs → W p l e (rm_d 0) s m args below meth c H locs 0 0 Q (F0 m 9 ls []) := by
    intro n9
    induction n9 using Nat.strongRecOn with
    | ind n9 ih9 =>
      intro x H locs ls hn9 hx1 hx2 hl hP hD hS
      refine lv_iload_n hx hb d_M_giveUp_9 rfl (lv_at hl 3 rfl) ?_
      refine lv_iload_n hx hb d_M_giveUp_10 rfl (lv_at hl 1 rfl) ?_
      refine lv_iload_n hx hb d_M_giveUp_11 rfl (lv_at hl 2 rfl) ?_
      refine nx_iadd hx hb d_M_giveUp_12 ?_
      refine nx_icmp_ge (tgt := 36) hx hb d_M_giveUp_13 (by decide) (by omega) (by omega) (fun h13 => ?_) (fun h13 => ?_)
      · skip
        have ex : x = a0 + ln a0 := by omega
        subst ex
        refine lv_iconst (v := nI 0) hx hb d_M_giveUp_36 (by decide +kernel) ?_
        refine lv_istore_n (lv' := [(3, .int (nI 0)), (0, .ref (hs 0)), (1, .int (nI a0)), (2, .int (nI (ln a0)))]) hx hb d_M_giveUp_37 rfl hl (by decide) rfl (fun ls hl => ?_)
        have key38 : ∀ (n9 : Nat) (b : Nat) (kd2 : Nat → Nat) (H : Heap) (locs : List Loc) (ls : Array Slot), 16 - b = n9 → b ≤ 16 → (∀ j, j < 16 → kd2 j = if j < b ∧ 32 ≤ kd j ∧ a0 ≤ 32 * j ∧ 32 * j < a0 + ln a0 then 0 else kd j) → lv_has ls 4 [(0, .ref (hs 0)), (1, .int (nI a0)), (2, .int (nI (ln a0))), (3, .int (nI b))] → va_P D cl_all (gw_M ca hs rt (rz_f wd a0 (a0 + ln a0) 0) (rz_f ob a0 (a0 + ln a0) 0) ln kd2 qt df mk th cn gv) H → va_D (gx_A hs 9) (gw_M ca hs rt (rz_f wd a0 (a0 + ln a0) 0) (rz_f ob a0 (a0 + ln a0) 0) ln kd2 qt df mk th cn gv) → va_S (gx_A hs 9) s.heap H locs → W p l e (rm_d 0) s m args below meth c H locs 0 0 Q (F0 m 38 ls []) := by
          intro n9
          induction n9 using Nat.strongRecOn with
          | ind n9 ih38 =>
            intro b kd2 H locs ls hn38 hb16 hkd2 hl hP hD hS
            refine lv_iload_n hx hb d_M_giveUp_38 rfl (lv_at hl 3 rfl) ?_
            refine lv_bipush (v := nI 16) hx hb d_M_giveUp_39 (by decide +kernel) ?_
            refine nx_icmp_ge (tgt := 95) hx hb d_M_giveUp_41 (by decide) (by omega) (by omega) (fun h41 => ?_) (fun h41 => ?_)
            · skip
              have hP := gx_ext hP (q0 := 7) (g := fun j => nI ((kz_f kd a0 (ln a0)) j)) rfl (fun j hj => by
                  rw [hkd2 j hj]
                  unfold kz_f
                  by_cases q : 32 ≤ kd j ∧ a0 ≤ 32 * j ∧ 32 * j < a0 + ln a0
                  · rw [if_pos q, if_pos ⟨by omega, q⟩]
                  · rw [if_neg q, if_neg (fun z => q z.2)])
              have hD := gx_Dadr hD (w' := gw_M ca hs rt (rz_f wd a0 (a0 + ln a0) 0) (rz_f ob a0 (a0 + ln a0) 0) ln (kz_f kd a0 (ln a0)) qt df mk th cn gv) (gw_M_adr.trans gw_M_adr.symm)
              have hP : va_P D cl_all (gw_M ca hs rt (rz_f wd a0 (a0 + ln a0) 0) (rz_f ob a0 (a0 + ln a0) 0) ln (kz_f kd a0 (ln a0)) qt df mk th cn gv) H := hP
              have hD : va_D (gx_A hs 9) (gw_M ca hs rt (rz_f wd a0 (a0 + ln a0) 0) (rz_f ob a0 (a0 + ln a0) 0) ln (kz_f kd a0 (ln a0)) qt df mk th cn gv) := hD
              refine lv_aload_n hx hb d_M_giveUp_95 rfl (lv_at hl 0 rfl) ?_
              refine lv_dup hx hb d_M_giveUp_96 rfl ?_
              refine va_get (D := D) (ci := 1) (v := .int (nI gv)) (C := R_M) (T := F_M) (N := 11) hx hb ht in_M hown hK hP 0 rfl rfl 10 (by decide) (ht _ wm_356) (fun _ h9 => h9) rfl d_M_giveUp_97 ?_
              refine lv_iconst (v := nI 1) hx hb d_M_giveUp_100 (by decide +kernel) ?_
              refine nx_iadd hx hb d_M_giveUp_101 ?_
              refine va_put (D := D) (ci := 1) (v := .int (nI (gv + 1))) (ty := .int) (C := R_M) (T := F_M) (N := 11) hx hb ht in_M t_M t_M_ok n_M_ne hown hK hP hD hS 0 rfl rfl 10 (by decide) (ht _ wm_356) (fun _ h9 => h9) rfl (by decide +kernel) rfl rfl (Nat.le_of_ble_eq_true rfl) d_M_giveUp_102 (fun H locs hP hD hS => ?_)
              have hP : va_P D cl_all (gw_M ca hs rt (rz_f wd a0 (a0 + ln a0) 0) (rz_f ob a0 (a0 + ln a0) 0) ln (kz_f kd a0 (ln a0)) qt df mk th cn (gv + 1)) H := hP
              have hD : va_D (gx_A hs 9) (gw_M ca hs rt (rz_f wd a0 (a0 + ln a0) 0) (rz_f ob a0 (a0 + ln a0) 0) ln (kz_f kd a0 (ln a0)) qt df mk th cn (gv + 1)) := hD
              refine hret 105 ls _ _ _ d_M_giveUp_105 hP hS ?_ ?_
              · exact gw_M_adr.trans gw_M_adr.symm
              · exact ⟨rfl, rfl⟩
            · skip
              have hkb : kd2 b = kd b := by rw [hkd2 b h41, if_neg (by omega)]
              have hkb2 := hk b h41
              refine lv_aload_n hx hb d_M_giveUp_44 rfl (lv_at hl 0 rfl) ?_
              refine va_get (D := D) (ci := 1) (v := .ref (hs 7)) (C := R_M) (T := F_M) (N := 11) hx hb ht in_M hown hK hP 0 rfl rfl 7 (by decide) (ht _ wm_353) (fun _ h9 => h9) rfl d_M_giveUp_45 ?_
              refine lv_iload_n hx hb d_M_giveUp_48 rfl (lv_at hl 3 rfl) ?_
              refine lv_aload_n hx hb d_M_giveUp_49 rfl (lv_at hl 0 rfl) ?_
              refine va_get (D := D) (ci := 1) (v := .ref (hs 7)) (C := R_M) (T := F_M) (N := 11) hx hb ht in_M hown hK hP 0 rfl rfl 7 (by decide) (ht _ wm_353) (fun _ h9 => h9) rfl d_M_giveUp_50 ?_
              refine lv_iload_n hx hb d_M_giveUp_53 rfl (lv_at hl 3 rfl) ?_
              refine nx_iald hx hb hK hP 7 6 nI kd2 rfl rfl b (by omega) (by decide) d_M_giveUp_54 ?_
              refine lv_bipush (v := nI 32) hx hb d_M_giveUp_55 (by decide +kernel) ?_
              refine nx_icmp_lt (tgt := 82) hx hb d_M_giveUp_57 (by decide) (by omega) (by omega) (fun h57 => ?_) (fun h57 => ?_)
              · skip
                refine lv_aload_n hx hb d_M_giveUp_82 rfl (lv_at hl 0 rfl) ?_
                refine va_get (D := D) (ci := 1) (v := .ref (hs 7)) (C := R_M) (T := F_M) (N := 11) hx hb ht in_M hown hK hP 0 rfl rfl 7 (by decide) (ht _ wm_353) (fun _ h9 => h9) rfl d_M_giveUp_83 ?_
                refine lv_iload_n hx hb d_M_giveUp_86 rfl (lv_at hl 3 rfl) ?_
                refine nx_iald hx hb hK hP 7 6 nI kd2 rfl rfl b (by omega) (by decide) d_M_giveUp_87 ?_
                refine nx_iast hx hb hK hP hD hS 7 6 nI kd2 rfl rfl b (kd2 b) (by omega) (by decide) d_M_giveUp_88 (fun H locs hP hD hS => ?_)
                have hP : va_P D cl_all (gw_M ca hs rt (rz_f wd a0 (a0 + ln a0) 0) (rz_f ob a0 (a0 + ln a0) 0) ln (va_up kd2 b (kd2 b)) qt df mk th cn gv) H := hP
                have hD : va_D (gx_A hs 9) (gw_M ca hs rt (rz_f wd a0 (a0 + ln a0) 0) (rz_f ob a0 (a0 + ln a0) 0) ln (va_up kd2 b (kd2 b)) qt df mk th cn gv) := hD
                refine lv_iinc (k := 3) (v := nI (b + 1)) (lv' := [(3, .int (nI (b + 1))), (0, .ref (hs 0)), (1, .int (nI a0)), (2, .int (nI (ln a0)))]) hx hb d_M_giveUp_89 hl rfl (nx_inc1 _) (by decide) rfl (fun ls hl => ?_)
                refine lv_goto (tgt := 38) hx hb d_M_giveUp_92 (by decide) ?_
                exact ih38 _ (by omega) (b + 1) (va_up kd2 b (kd2 b)) _ _ _ rfl (by omega) (fun j hj => by
                    by_cases e : j = b
                    · rw [e, va_up_self, if_neg (fun q => by have := q.2; rw [hkb] at *; omega)]; exact hkb
                    · rw [va_up_ne _ _ e, hkd2 j hj]
                      by_cases q : j < b ∧ 32 ≤ kd j ∧ a0 ≤ 32 * j ∧ 32 * j < a0 + ln a0
                      · rw [if_pos q, if_pos ⟨by omega, q.2⟩]
                      · rw [if_neg q, if_neg (fun z => q ⟨by omega, z.2⟩)]) (lv_sub hl [1, 2, 3, 0] rfl) hP hD hS
              · skip
                refine lv_bipush (v := nI 32) hx hb d_M_giveUp_60 (by decide +kernel) ?_
                refine lv_iload_n hx hb d_M_giveUp_62 rfl (lv_at hl 3 rfl) ?_
                refine nx_imul hx hb d_M_giveUp_63 ?_
                refine lv_iload_n hx hb d_M_giveUp_64 rfl (lv_at hl 1 rfl) ?_
                refine nx_icmp_lt (tgt := 82) hx hb d_M_giveUp_65 (by decide) (by omega) (by omega) (fun h65 => ?_) (fun h65 => ?_)
                · skip
                  refine lv_aload_n hx hb d_M_giveUp_82 rfl (lv_at hl 0 rfl) ?_
                  refine va_get (D := D) (ci := 1) (v := .ref (hs 7)) (C := R_M) (T := F_M) (N := 11) hx hb ht in_M hown hK hP 0 rfl rfl 7 (by decide) (ht _ wm_353) (fun _ h9 => h9) rfl d_M_giveUp_83 ?_
                  refine lv_iload_n hx hb d_M_giveUp_86 rfl (lv_at hl 3 rfl) ?_
                  refine nx_iald hx hb hK hP 7 6 nI kd2 rfl rfl b (by omega) (by decide) d_M_giveUp_87 ?_
                  refine nx_iast hx hb hK hP hD hS 7 6 nI kd2 rfl rfl b (kd2 b) (by omega) (by decide) d_M_giveUp_88 (fun H locs hP hD hS => ?_)
                  have hP : va_P D cl_all (gw_M ca hs rt (rz_f wd a0 (a0 + ln a0) 0) (rz_f ob a0 (a0 + ln a0) 0) ln (va_up kd2 b (kd2 b)) qt df mk th cn gv) H := hP
                  have hD : va_D (gx_A hs 9) (gw_M ca hs rt (rz_f wd a0 (a0 + ln a0) 0) (rz_f ob a0 (a0 + ln a0) 0) ln (va_up kd2 b (kd2 b)) qt df mk th cn gv) := hD
                  refine lv_iinc (k := 3) (v := nI (b + 1)) (lv' := [(3, .int (nI (b + 1))), (0, .ref (hs 0)), (1, .int (nI a0)), (2, .int (nI (ln a0)))]) hx hb d_M_giveUp_89 hl rfl (nx_inc1 _) (by decide) rfl (fun ls hl => ?_)
                  refine lv_goto (tgt := 38) hx hb d_M_giveUp_92 (by decide) ?_
                  exact ih38 _ (by omega) (b + 1) (va_up kd2 b (kd2 b)) _ _ _ rfl (by omega) (fun j hj => by
                      by_cases e : j = b
                      · rw [e, va_up_self, if_neg (fun q => by omega)]; exact hkb
                      · rw [va_up_ne _ _ e, hkd2 j hj]
                        by_cases q : j < b ∧ 32 ≤ kd j ∧ a0 ≤ 32 * j ∧ 32 * j < a0 + ln a0
                        · rw [if_pos q, if_pos ⟨by omega, q.2⟩]
                        · rw [if_neg q, if_neg (fun z => q ⟨by omega, z.2⟩)]) (lv_sub hl [1, 2, 3, 0] rfl) hP hD hS
                · skip
                  refine lv_bipush (v := nI 32) hx hb d_M_giveUp_68 (by decide +kernel) ?_
                  refine lv_iload_n hx hb d_M_giveUp_70 rfl (lv_at hl 3 rfl) ?_
                  refine nx_imul hx hb d_M_giveUp_71 ?_
                  refine lv_iload_n hx hb d_M_giveUp_72 rfl (lv_at hl 1 rfl) ?_
                  refine lv_iload_n hx hb d_M_giveUp_73 rfl (lv_at hl 2 rfl) ?_
                  refine nx_iadd hx hb d_M_giveUp_74 ?_
                  refine nx_icmp_ge (tgt := 82) hx hb d_M_giveUp_75 (by decide) (by omega) (by omega) (fun h75 => ?_) (fun h75 => ?_)
                  · skip
                    refine lv_aload_n hx hb d_M_giveUp_82 rfl (lv_at hl 0 rfl) ?_
                    refine va_get (D := D) (ci := 1) (v := .ref (hs 7)) (C := R_M) (T := F_M) (N := 11) hx hb ht in_M hown hK hP 0 rfl rfl 7 (by decide) (ht _ wm_353) (fun _ h9 => h9) rfl d_M_giveUp_83 ?_
                    refine lv_iload_n hx hb d_M_giveUp_86 rfl (lv_at hl 3 rfl) ?_
                    refine nx_iald hx hb hK hP 7 6 nI kd2 rfl rfl b (by omega) (by decide) d_M_giveUp_87 ?_
                    refine nx_iast hx hb hK hP hD hS 7 6 nI kd2 rfl rfl b (kd2 b) (by omega) (by decide) d_M_giveUp_88 (fun H locs hP hD hS => ?_)
                    have hP : va_P D cl_all (gw_M ca hs rt (rz_f wd a0 (a0 + ln a0) 0) (rz_f ob a0 (a0 + ln a0) 0) ln (va_up kd2 b (kd2 b)) qt df mk th cn gv) H := hP
                    have hD : va_D (gx_A hs 9) (gw_M ca hs rt (rz_f wd a0 (a0 + ln a0) 0) (rz_f ob a0 (a0 + ln a0) 0) ln (va_up kd2 b (kd2 b)) qt df mk th cn gv) := hD
                    refine lv_iinc (k := 3) (v := nI (b + 1)) (lv' := [(3, .int (nI (b + 1))), (0, .ref (hs 0)), (1, .int (nI a0)), (2, .int (nI (ln a0)))]) hx hb d_M_giveUp_89 hl rfl (nx_inc1 _) (by decide) rfl (fun ls hl => ?_)
                    refine lv_goto (tgt := 38) hx hb d_M_giveUp_92 (by decide) ?_
                    exact ih38 _ (by omega) (b + 1) (va_up kd2 b (kd2 b)) _ _ _ rfl (by omega) (fun j hj => by
                        by_cases e : j = b
                        · rw [e, va_up_self, if_neg (fun q => by omega)]; exact hkb
                        · rw [va_up_ne _ _ e, hkd2 j hj]
                          by_cases q : j < b ∧ 32 ≤ kd j ∧ a0 ≤ 32 * j ∧ 32 * j < a0 + ln a0
                          · rw [if_pos q, if_pos ⟨by omega, q.2⟩]
                          · rw [if_neg q, if_neg (fun z => q ⟨by omega, z.2⟩)]) (lv_sub hl [1, 2, 3, 0] rfl) hP hD hS
                  · skip
                    refine lv_iconst (v := nI 0) hx hb d_M_giveUp_78 (by decide +kernel) ?_
                    refine lv_goto (tgt := 88) hx hb d_M_giveUp_79 (by decide) ?_
                    refine nx_iast hx hb hK hP hD hS 7 6 nI kd2 rfl rfl b 0 (by omega) (by decide) d_M_giveUp_88 (fun H locs hP hD hS => ?_)
                    have hP : va_P D cl_all (gw_M ca hs rt (rz_f wd a0 (a0 + ln a0) 0) (rz_f ob a0 (a0 + ln a0) 0) ln (va_up kd2 b 0) qt df mk th cn gv) H := hP
                    have hD : va_D (gx_A hs 9) (gw_M ca hs rt (rz_f wd a0 (a0 + ln a0) 0) (rz_f ob a0 (a0 + ln a0) 0) ln (va_up kd2 b 0) qt df mk th cn gv) := hD
                    refine lv_iinc (k := 3) (v := nI (b + 1)) (lv' := [(3, .int (nI (b + 1))), (0, .ref (hs 0)), (1, .int (nI a0)), (2, .int (nI (ln a0)))]) hx hb d_M_giveUp_89 hl rfl (nx_inc1 _) (by decide) rfl (fun ls hl => ?_)
                    refine lv_goto (tgt := 38) hx hb d_M_giveUp_92 (by decide) ?_
                    exact ih38 _ (by omega) (b + 1) (va_up kd2 b (0)) _ _ _ rfl (by omega) (fun j hj => by
                        by_cases e : j = b
                        · rw [e, va_up_self, if_pos ⟨by omega, (show 32 ≤ kd b by rw [hkb] at h57; exact h57), h65, h75⟩]
                        · rw [va_up_ne _ _ e, hkd2 j hj]
                          by_cases q : j < b ∧ 32 ≤ kd j ∧ a0 ≤ 32 * j ∧ 32 * j < a0 + ln a0
                          · rw [if_pos q, if_pos ⟨by omega, q.2⟩]
                          · rw [if_neg q, if_neg (fun z => q ⟨by omega, z.2⟩)]) (lv_sub hl [1, 2, 3, 0] rfl) hP hD hS
        exact key38 _ (0) (kd) _ _ _ rfl (Nat.zero_le _) (fun j _ => by rw [if_neg (by omega)]) (lv_sub hl [1, 2, 3, 0] rfl) hP hD hS
      · skip
        refine lv_aload_n hx hb d_M_giveUp_16 rfl (lv_at hl 0 rfl) ?_
        refine va_get (D := D) (ci := 1) (v := .ref (hs 2)) (C := R_M) (T := F_M) (N := 11) hx hb ht in_M hown hK hP 0 rfl rfl 2 (by decide) (ht _ wm_348) (fun _ h9 => h9) rfl d_M_giveUp_17 ?_
        refine lv_iload_n hx hb d_M_giveUp_20 rfl (lv_at hl 3 rfl) ?_
        refine lv_iconst (v := nI 0) hx hb d_M_giveUp_21 (by decide +kernel) ?_
        refine nx_rast hx hb hK hP hD hS 2 1 (rz_f wd a0 x 0) rfl rfl x (nI 0) (by omega) (by decide) d_M_giveUp_22 (fun H locs hP hD hS => ?_)
        have hP : va_P D cl_all (gw_M ca hs rt (va_up (rz_f wd a0 x 0) x (nI 0)) (rz_f ob a0 x 0) ln kd qt df mk th cn gv) H := hP
        have hD : va_D (gx_A hs 9) (gw_M ca hs rt (va_up (rz_f wd a0 x 0) x (nI 0)) (rz_f ob a0 x 0) ln kd qt df mk th cn gv) := hD
        refine lv_aload_n hx hb d_M_giveUp_23 rfl (lv_at hl 0 rfl) ?_
        refine va_get (D := D) (ci := 1) (v := .ref (hs 3)) (C := R_M) (T := F_M) (N := 11) hx hb ht in_M hown hK hP 0 rfl rfl 3 (by decide) (ht _ wm_349) (fun _ h9 => h9) rfl d_M_giveUp_24 ?_
        refine lv_iload_n hx hb d_M_giveUp_27 rfl (lv_at hl 3 rfl) ?_
        refine lv_iconst (v := nI 0) hx hb d_M_giveUp_28 (by decide +kernel) ?_
        refine nx_iast hx hb hK hP hD hS 3 2 nI (rz_f ob a0 x 0) rfl rfl x 0 (by omega) (by decide) d_M_giveUp_29 (fun H locs hP hD hS => ?_)
        have hP : va_P D cl_all (gw_M ca hs rt (va_up (rz_f wd a0 x 0) x (nI 0)) (va_up (rz_f ob a0 x 0) x 0) ln kd qt df mk th cn gv) H := hP
        have hD : va_D (gx_A hs 9) (gw_M ca hs rt (va_up (rz_f wd a0 x 0) x (nI 0)) (va_up (rz_f ob a0 x 0) x 0) ln kd qt df mk th cn gv) := hD
        refine lv_iinc (k := 3) (v := nI (x + 1)) (lv' := [(3, .int (nI (x + 1))), (0, .ref (hs 0)), (1, .int (nI a0)), (2, .int (nI (ln a0)))]) hx hb d_M_giveUp_30 hl rfl (nx_inc1 _) (by decide) rfl (fun ls hl => ?_)
        refine lv_goto (tgt := 9) hx hb d_M_giveUp_33 (by decide) ?_
        have ez : nI 0 = (0 : Int32) := nI_0
        rw [ez, rz_u wd 0 hx1, rz_u ob 0 hx1] at hP hD
        exact ih9 _ (by omega) (x + 1) _ _ _ rfl (by omega) (by omega) (lv_sub hl [1, 2, 3, 0] rfl) hP hD hS
  exact key9 _ (a0) _ _ _ rfl (Nat.le_refl _) (by omega) (lv_sub hl [2, 3, 1, 0] rfl) hP hD hS

