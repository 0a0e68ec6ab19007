/-! the reference: settling, gathering -/
theorem sk_us (kd : Nat → Nat) {n z a x : Nat} (h : a ≤ x) (hn : n ≤ 16) : va_up (sk_f kd n z a x) (x / 32) z = sk_f kd n z a (x + 1) := by
  have e := sk_u kd (n := n) (z := z) h
  rwa [if_pos hn] at e
theorem sk_u1 (kd : Nat → Nat) {n z a x : Nat} (h : a ≤ x) (hn : ¬ n ≤ 16) (hx : x / 32 = a / 32) : va_up (sk_f kd n z a x) (x / 32) 32 = sk_f kd n z a (x + 1) := by
  have e := sk_u kd (n := n) (z := z) h
  rwa [if_neg hn, if_pos hx] at e
theorem sk_u2 (kd : Nat → Nat) {n z a x : Nat} (h : a ≤ x) (hn : ¬ n ≤ 16) (hx : ¬ x / 32 = a / 32) : va_up (sk_f kd n z a x) (x / 32) 33 = sk_f kd n z a (x + 1) := by
  have e := sk_u kd (n := n) (z := z) h
  rwa [if_neg hn, if_neg hx] at e
theorem cn_slt {P Q : Nat → Bool} {k : Nat} (hP : P k = false) (hQ : Q k = true) (n : Nat) : k < n → (∀ i, i < n → P i = true → Q i = true) → cn_t P n < cn_t Q n := by
  induction n with
  | zero => intro h; omega
  | succ n ih =>
    intro h hx
    simp only [cn_t]
    by_cases hk : k = n
    · subst hk
      have := cn_mono k (fun i hi => hx i (by omega))
      rw [hP, hQ]
      simp
      omega
    · have h1 := ih (by omega) (fun i hi => hx i (by omega))
      have h2 := hx n (by omega)
      cases hp : P n
      · simp
        split <;> omega
      · rw [h2 hp]
        simp
        omega
theorem ms_dec {mo mo3 : Bool} {mk mk3 : Nat → Bool} (hm : mo = true) (h3 : ∀ p, mk p = true → mk3 p = true) (h1 : mo3 = true → ∃ p, p < 512 ∧ mk p = false ∧ mk3 p = true) : 2 * (512 - cn_t mk3 512) + (if mo3 = true then 1 else 0) < 2 * (512 - cn_t mk 512) + (if mo = true then 1 else 0) := by
  rw [if_pos hm]
  have ha := cn_le mk3 512
  cases h : mo3 with
  | false =>
    have := cn_mono (P := mk) (Q := mk3) 512 (fun i _ => h3 i)
    rw [if_neg (by decide)]
    omega
  | true =>
    obtain ⟨p, p1, p2, p3⟩ := h1 h
    have := cn_slt (P := mk) (Q := mk3) p2 p3 512 p1 (fun i _ => h3 i)
    rw [if_pos rfl]
    omega
set_option maxHeartbeats 4000000 in
set_option maxRecDepth 100000 in
theorem c_M_settle (l : Launch) (D : va_G) (ca : Nat → ClassId) (hs : Nat → Nat) (rt : Nat → Int32) (wd : Nat → Int32) (ob : Nat → Nat) (ln : Nat → Nat) (kd : Nat → Nat) (qt : Nat → Bool) (df : Nat → Bool) (mk : Nat → Bool) (th : Nat) (cn : Nat) (gv : Nat) (a0 n : Nat) (sl : Bool) (hn1 : 1 ≤ n) (hn2 : n ≤ 128) (hok : rm_ok ob kd n a0) (hw : iv_w ob wd) : Met l y_M_settle (Cond.code y_M_settle b_M_settle 6 none :: wa_all) (rm_d 1) (va_Pc [.ref (hs 0), .int (nI a0), .int (nI n), .int (zb_e sl)] (gx_I D cl_all (ty_M ca) (gw_M ca hs rt wd ob ln kd qt df mk th cn gv))) (gx_Q D cl_all (gx_A hs 9) (gw_M ca hs rt wd ob ln kd qt df mk th cn gv) (fun v w' => v = none ∧ w' = gw_M ca hs rt wd (st_ob ob a0 (ss_n n)) (va_up ln a0 (ss_n n)) (st_kd kd a0 (ss_n n) n) (va_up qt a0 sl) (st_df df a0 (ss_n n)) mk th cn gv)) 0 0 (gx_A hs 9) := by
  refine gx_mutV (by decide) (Nat.le_of_ble_eq_true rfl) gw_M_in ?_
  intro p e s m args below meth c ls Q hx hb hml ht hown hret hP hK hD hS hl
  have hl : lv_has ls 6 [(0, .ref (hs 0)), (1, .int (nI a0)), (2, .int (nI n)), (3, .int (zb_e sl))] := hl
  have hown : s.vm.findClass R_M = some m.cls := hown
  have hok1 := hok.1
  have hok3 := hok.2.2.1
  have hP : va_P D cl_all (gw_M ca hs rt wd ob ln kd qt df mk th cn gv) s.heap := hP
  refine lv_iload_n hx hb d_M_settle_0 rfl (lv_at hl 2 rfl) ?_
  refine lv_bipush (v := nI 16) hx hb d_M_settle_1 (by decide +kernel) ?_
  refine nx_icmp_gt (tgt := 13) hx hb d_M_settle_3 (by decide) (by omega) (by omega) (fun h3 => ?_) (fun h3 => ?_)
  · skip
    refine lv_iload_n hx hb d_M_settle_13 rfl (lv_at hl 2 rfl) ?_
    refine lv_bipush (v := nI 31) hx hb d_M_settle_14 (by decide +kernel) ?_
    refine nx_iadd hx hb d_M_settle_16 ?_
    refine lv_bipush (v := nI 32) hx hb d_M_settle_17 (by decide +kernel) ?_
    refine nx_idiv hx hb d_M_settle_19 (by omega) (by omega) (by omega) ?_
    refine lv_bipush (v := nI 32) hx hb d_M_settle_20 (by decide +kernel) ?_
    refine nx_imul hx hb d_M_settle_22 ?_
    refine nx_top (show _ = nI (ss_n n) by rw [ss_g (show ¬ n ≤ 16 by omega)]; rfl) ?_
    refine lv_istore (lv' := [(4, .int (nI (ss_n n))), (0, .ref (hs 0)), (1, .int (nI a0)), (2, .int (nI n)), (3, .int (zb_e sl))]) hx hb d_M_settle_23 hl (by decide) rfl (fun ls hl => ?_)
    refine lv_aload_n hx hb d_M_settle_25 rfl (lv_at hl 1 rfl) ?_
    refine va_get (D := D) (ci := 1) (v := .ref (hs 4)) (C := R_M) (T := F_M) (N := 11) hx hb ht in_M hown hK hP 0 rfl rfl 4 (by decide) (ht _ wm_350) (fun _ h9 => h9) rfl d_M_settle_26 ?_
    refine lv_iload_n hx hb d_M_settle_29 rfl (lv_at hl 2 rfl) ?_
    refine lv_iload hx hb d_M_settle_30 (lv_at hl 0 rfl) ?_
    refine nx_iast hx hb hK hP hD hS 4 3 nI ln rfl rfl a0 (ss_n n) (by omega) (by decide) d_M_settle_32 (fun H locs hP hD hS => ?_)
    have hP : va_P D cl_all (gw_M ca hs rt wd ob (va_up ln a0 (ss_n n)) kd qt df mk th cn gv) H := hP
    have hD : va_D (gx_A hs 9) (gw_M ca hs rt wd ob (va_up ln a0 (ss_n n)) kd qt df mk th cn gv) := hD
    refine lv_aload_n hx hb d_M_settle_33 rfl (lv_at hl 1 rfl) ?_
    refine va_get (D := D) (ci := 1) (v := .ref (hs 5)) (C := R_M) (T := F_M) (N := 11) hx hb ht in_M hown hK hP 0 rfl rfl 5 (by decide) (ht _ wm_351) (fun _ h9 => h9) rfl d_M_settle_34 ?_
    refine lv_iload_n hx hb d_M_settle_37 rfl (lv_at hl 2 rfl) ?_
    refine lv_iload_n hx hb d_M_settle_38 rfl (lv_at hl 4 rfl) ?_
    refine nx_zast hx hb hK hP hD hS 5 4 qt rfl rfl a0 sl (by omega) (by decide) d_M_settle_39 (fun H locs hP hD hS => ?_)
    have hP : va_P D cl_all (gw_M ca hs rt wd ob (va_up ln a0 (ss_n n)) kd (va_up qt a0 sl) df mk th cn gv) H := hP
    have hD : va_D (gx_A hs 9) (gw_M ca hs rt wd ob (va_up ln a0 (ss_n n)) kd (va_up qt a0 sl) df mk th cn gv) := hD
    rw [rz_0 ob a0 (a0 + 1), rz_0 wd a0 0, sk_0 kd n (ss_n n) a0, sd_0 df a0] at hP hD
    have hP : va_P D cl_all (gw_M ca hs rt (rz_f wd a0 a0 0) (rz_f ob a0 a0 (a0 + 1)) (va_up ln a0 (ss_n n)) (sk_f kd n (ss_n n) a0 a0) (va_up qt a0 sl) (sd_f df a0 a0) mk th cn gv) H := hP
    have hD : va_D (gx_A hs 9) (gw_M ca hs rt (rz_f wd a0 a0 0) (rz_f ob a0 a0 (a0 + 1)) (va_up ln a0 (ss_n n)) (sk_f kd n (ss_n n) a0 a0) (va_up qt a0 sl) (sd_f df a0 a0) mk th cn gv) := hD
    refine lv_iload_n hx hb d_M_settle_40 rfl (lv_at hl 2 rfl) ?_
    refine lv_istore (lv' := [(5, .int (nI a0)), (4, .int (nI (ss_n n))), (0, .ref (hs 0)), (1, .int (nI a0)), (2, .int (nI n)), (3, .int (zb_e sl))]) hx hb d_M_settle_41 hl (by decide) rfl (fun ls hl => ?_)
    have key43 : ∀ (n9 : Nat) (x : Nat) (H : Heap) (locs : List Loc) (ls : Array Slot), a0 + ss_n n - x = n9 → a0 ≤ x → x ≤ a0 + ss_n n → lv_has ls 6 [(0, .ref (hs 0)), (1, .int (nI a0)), (2, .int (nI n)), (3, .int (zb_e sl)), (4, .int (nI (ss_n n))), (5, .int (nI x))] → va_P D cl_all (gw_M ca hs rt (rz_f wd a0 x 0) (rz_f ob a0 x (a0 + 1)) (va_up ln a0 (ss_n n)) (sk_f kd n (ss_n n) a0 x) (va_up qt a0 sl) (sd_f df a0 x) mk th cn gv) H → va_D (gx_A hs 9) (gw_M ca hs rt (rz_f wd a0 x 0) (rz_f ob a0 x (a0 + 1)) (va_up ln a0 (ss_n n)) (sk_f kd n (ss_n n) a0 x) (va_up qt a0 sl) (sd_f df a0 x) mk th cn gv) → va_S (gx_A hs 9) s.heap H locs → W p l e (rm_d 1) s m args below meth c H locs 0 0 Q (F0 m 43 ls []) := by
      intro n9
      induction n9 using Nat.strongRecOn with
      | ind n9 ih43 =>
        intro x H locs ls hn43 hx1 hx2 hl hP hD hS
        refine lv_iload hx hb d_M_settle_43 (lv_at hl 5 rfl) ?_
        refine lv_iload_n hx hb d_M_settle_45 rfl (lv_at hl 1 rfl) ?_
        refine lv_iload hx hb d_M_settle_46 (lv_at hl 4 rfl) ?_
        refine nx_iadd hx hb d_M_settle_48 ?_
        refine nx_icmp_ge (tgt := 127) hx hb d_M_settle_49 (by decide) (by omega) (by omega) (fun h49 => ?_) (fun h49 => ?_)
        · skip
          have ex : x = a0 + ss_n n := by omega
          subst ex
          rw [sk_e kd (show 1 ≤ ss_n n by omega), sd_e df (show 1 ≤ ss_n n by omega), show rz_f ob a0 (a0 + ss_n n) (a0 + 1) = st_ob ob a0 (ss_n n) from rfl] at hP hD
          have hP : va_P D cl_all (gw_M ca hs rt (rz_f wd a0 (a0 + ss_n n) 0) (st_ob ob a0 (ss_n n)) (va_up ln a0 (ss_n n)) (st_kd kd a0 (ss_n n) n) (va_up qt a0 sl) (st_df df a0 (ss_n n)) mk th cn gv) H := hP
          have hD : va_D (gx_A hs 9) (gw_M ca hs rt (rz_f wd a0 (a0 + ss_n n) 0) (st_ob ob a0 (ss_n n)) (va_up ln a0 (ss_n n)) (st_kd kd a0 (ss_n n) n) (va_up qt a0 sl) (st_df df a0 (ss_n n)) mk th cn gv) := hD
          have hP := gx_ext hP (q0 := 2) (g := wd) rfl (fun j hj => by
              unfold rz_f
              by_cases q : a0 ≤ j ∧ j < a0 + ss_n n
              · rw [if_pos q]
                exact (hw j hj (hok.2.2.2.1 j q.1 q.2)).symm
              · rw [if_neg q])
          have hD := gx_Dadr hD (w' := gw_M ca hs rt wd (st_ob ob a0 (ss_n n)) (va_up ln a0 (ss_n n)) (st_kd kd a0 (ss_n n) n) (va_up qt a0 sl) (st_df df a0 (ss_n n)) mk th cn gv) (gw_M_adr.trans gw_M_adr.symm)
          have hP : va_P D cl_all (gw_M ca hs rt wd (st_ob ob a0 (ss_n n)) (va_up ln a0 (ss_n n)) (st_kd kd a0 (ss_n n) n) (va_up qt a0 sl) (st_df df a0 (ss_n n)) mk th cn gv) H := hP
          have hD : va_D (gx_A hs 9) (gw_M ca hs rt wd (st_ob ob a0 (ss_n n)) (va_up ln a0 (ss_n n)) (st_kd kd a0 (ss_n n) n) (va_up qt a0 sl) (st_df df a0 (ss_n n)) mk th cn gv) := hD
          refine hret 127 ls _ _ _ d_M_settle_127 hP hS ?_ ?_
          · exact gw_M_adr.trans gw_M_adr.symm
          · exact ⟨rfl, rfl⟩
        · skip
          refine lv_aload_n hx hb d_M_settle_52 rfl (lv_at hl 0 rfl) ?_
          refine va_get (D := D) (ci := 1) (v := .ref (hs 3)) (C := R_M) (T := F_M) (N := 11) hx hb ht in_M hown hK hP 0 rfl rfl 3 (by decide) (ht _ wm_349) (fun _ h9 => h9) rfl d_M_settle_53 ?_
          refine lv_iload hx hb d_M_settle_56 (lv_at hl 5 rfl) ?_
          refine lv_iload_n hx hb d_M_settle_58 rfl (lv_at hl 1 rfl) ?_
          refine lv_iconst (v := nI 1) hx hb d_M_settle_59 (by decide +kernel) ?_
          refine nx_iadd hx hb d_M_settle_60 ?_
          refine nx_iast hx hb hK hP hD hS 3 2 nI (rz_f ob a0 x (a0 + 1)) rfl rfl x (a0 + 1) (by omega) (by decide) d_M_settle_61 (fun H locs hP hD hS => ?_)
          have hP : va_P D cl_all (gw_M ca hs rt (rz_f wd a0 x 0) (va_up (rz_f ob a0 x (a0 + 1)) x (a0 + 1)) (va_up ln a0 (ss_n n)) (sk_f kd n (ss_n n) a0 x) (va_up qt a0 sl) (sd_f df a0 x) mk th cn gv) H := hP
          have hD : va_D (gx_A hs 9) (gw_M ca hs rt (rz_f wd a0 x 0) (va_up (rz_f ob a0 x (a0 + 1)) x (a0 + 1)) (va_up ln a0 (ss_n n)) (sk_f kd n (ss_n n) a0 x) (va_up qt a0 sl) (sd_f df a0 x) mk th cn gv) := hD
          refine lv_aload_n hx hb d_M_settle_62 rfl (lv_at hl 0 rfl) ?_
          refine va_get (D := D) (ci := 1) (v := .ref (hs 2)) (C := R_M) (T := F_M) (N := 11) hx hb ht in_M hown hK hP 0 rfl rfl 2 (by decide) (ht _ wm_348) (fun _ h9 => h9) rfl d_M_settle_63 ?_
          refine lv_iload hx hb d_M_settle_66 (lv_at hl 5 rfl) ?_
          refine lv_iconst (v := nI 0) hx hb d_M_settle_68 (by decide +kernel) ?_
          refine nx_rast hx hb hK hP hD hS 2 1 (rz_f wd a0 x 0) rfl rfl x (nI 0) (by omega) (by decide) d_M_settle_69 (fun H locs hP hD hS => ?_)
          have hP : va_P D cl_all (gw_M ca hs rt (va_up (rz_f wd a0 x 0) x (nI 0)) (va_up (rz_f ob a0 x (a0 + 1)) x (a0 + 1)) (va_up ln a0 (ss_n n)) (sk_f kd n (ss_n n) a0 x) (va_up qt a0 sl) (sd_f df a0 x) mk th cn gv) H := hP
          have hD : va_D (gx_A hs 9) (gw_M ca hs rt (va_up (rz_f wd a0 x 0) x (nI 0)) (va_up (rz_f ob a0 x (a0 + 1)) x (a0 + 1)) (va_up ln a0 (ss_n n)) (sk_f kd n (ss_n n) a0 x) (va_up qt a0 sl) (sd_f df a0 x) mk th cn gv) := hD
          refine lv_aload_n hx hb d_M_settle_70 rfl (lv_at hl 0 rfl) ?_
          refine va_get (D := D) (ci := 1) (v := .ref (hs 7)) (C := R_M) (T := F_M) (N := 11) hx hb ht in_M hown hK hP 0 rfl rfl 7 (by decide) (ht _ wm_353) (fun _ h9 => h9) rfl d_M_settle_71 ?_
          refine lv_iload hx hb d_M_settle_74 (lv_at hl 5 rfl) ?_
          refine lv_bipush (v := nI 32) hx hb d_M_settle_76 (by decide +kernel) ?_
          refine nx_idiv hx hb d_M_settle_78 (by omega) (by omega) (by omega) ?_
          refine lv_iload_n hx hb d_M_settle_79 rfl (lv_at hl 2 rfl) ?_
          refine lv_bipush (v := nI 16) hx hb d_M_settle_80 (by decide +kernel) ?_
          refine nx_icmp_gt (tgt := 90) hx hb d_M_settle_82 (by decide) (by omega) (by omega) (fun h82 => ?_) (fun h82 => ?_)
          · skip
            refine lv_iload hx hb d_M_settle_90 (lv_at hl 5 rfl) ?_
            refine lv_bipush (v := nI 32) hx hb d_M_settle_92 (by decide +kernel) ?_
            refine nx_idiv hx hb d_M_settle_94 (by omega) (by omega) (by omega) ?_
            refine lv_iload_n hx hb d_M_settle_95 rfl (lv_at hl 1 rfl) ?_
            refine lv_bipush (v := nI 32) hx hb d_M_settle_96 (by decide +kernel) ?_
            refine nx_idiv hx hb d_M_settle_98 (by omega) (by omega) (by omega) ?_
            refine nx_icmp_ne (tgt := 107) hx hb d_M_settle_99 (by decide) (by omega) (by omega) (fun h99 => ?_) (fun h99 => ?_)
            · skip
              refine lv_bipush (v := nI 33) hx hb d_M_settle_107 (by decide +kernel) ?_
              refine nx_iast hx hb hK hP hD hS 7 6 nI (sk_f kd n (ss_n n) a0 x) rfl rfl (x / 32) 33 (by omega) (by decide) d_M_settle_109 (fun H locs hP hD hS => ?_)
              have hP : va_P D cl_all (gw_M ca hs rt (va_up (rz_f wd a0 x 0) x (nI 0)) (va_up (rz_f ob a0 x (a0 + 1)) x (a0 + 1)) (va_up ln a0 (ss_n n)) (va_up (sk_f kd n (ss_n n) a0 x) (x / 32) 33) (va_up qt a0 sl) (sd_f df a0 x) mk th cn gv) H := hP
              have hD : va_D (gx_A hs 9) (gw_M ca hs rt (va_up (rz_f wd a0 x 0) x (nI 0)) (va_up (rz_f ob a0 x (a0 + 1)) x (a0 + 1)) (va_up ln a0 (ss_n n)) (va_up (sk_f kd n (ss_n n) a0 x) (x / 32) 33) (va_up qt a0 sl) (sd_f df a0 x) mk th cn gv) := hD
              refine lv_aload_n hx hb d_M_settle_110 rfl (lv_at hl 0 rfl) ?_
              refine va_get (D := D) (ci := 1) (v := .ref (hs 8)) (C := R_M) (T := F_M) (N := 11) hx hb ht in_M hown hK hP 0 rfl rfl 8 (by decide) (ht _ wm_354) (fun _ h9 => h9) rfl d_M_settle_111 ?_
              refine lv_iload hx hb d_M_settle_114 (lv_at hl 5 rfl) ?_
              refine lv_bipush (v := nI 32) hx hb d_M_settle_116 (by decide +kernel) ?_
              refine nx_idiv hx hb d_M_settle_118 (by omega) (by omega) (by omega) ?_
              refine lv_iconst (v := zb_e false) hx hb d_M_settle_119 (by decide +kernel) ?_
              refine nx_zast hx hb hK hP hD hS 8 7 (sd_f df a0 x) rfl rfl (x / 32) false (by omega) (by decide) d_M_settle_120 (fun H locs hP hD hS => ?_)
              have hP : va_P D cl_all (gw_M ca hs rt (va_up (rz_f wd a0 x 0) x (nI 0)) (va_up (rz_f ob a0 x (a0 + 1)) x (a0 + 1)) (va_up ln a0 (ss_n n)) (va_up (sk_f kd n (ss_n n) a0 x) (x / 32) 33) (va_up qt a0 sl) (va_up (sd_f df a0 x) (x / 32) false) mk th cn gv) H := hP
              have hD : va_D (gx_A hs 9) (gw_M ca hs rt (va_up (rz_f wd a0 x 0) x (nI 0)) (va_up (rz_f ob a0 x (a0 + 1)) x (a0 + 1)) (va_up ln a0 (ss_n n)) (va_up (sk_f kd n (ss_n n) a0 x) (x / 32) 33) (va_up qt a0 sl) (va_up (sd_f df a0 x) (x / 32) false) mk th cn gv) := hD
              refine lv_iinc (k := 5) (v := nI (x + 1)) (lv' := [(5, .int (nI (x + 1))), (0, .ref (hs 0)), (1, .int (nI a0)), (2, .int (nI n)), (3, .int (zb_e sl)), (4, .int (nI (ss_n n)))]) hx hb d_M_settle_121 hl rfl (nx_inc1 _) (by decide) rfl (fun ls hl => ?_)
              refine lv_goto (tgt := 43) hx hb d_M_settle_124 (by decide) ?_
              have ez : nI 0 = (0 : Int32) := nI_0
              rw [ez, rz_u wd 0 hx1, rz_u ob (a0 + 1) hx1, sk_u2 kd hx1 (show ¬ n ≤ 16 by omega) h99, sd_u df hx1] at hP hD
              exact ih43 _ (by omega) (x + 1) _ _ _ rfl (by omega) (by omega) (lv_sub hl [1, 2, 3, 4, 5, 0] rfl) hP hD hS
            · skip
              refine lv_bipush (v := nI 32) hx hb d_M_settle_102 (by decide +kernel) ?_
              refine lv_goto (tgt := 109) hx hb d_M_settle_104 (by decide) ?_
              refine nx_iast hx hb hK hP hD hS 7 6 nI (sk_f kd n (ss_n n) a0 x) rfl rfl (x / 32) 32 (by omega) (by decide) d_M_settle_109 (fun H locs hP hD hS => ?_)
              have hP : va_P D cl_all (gw_M ca hs rt (va_up (rz_f wd a0 x 0) x (nI 0)) (va_up (rz_f ob a0 x (a0 + 1)) x (a0 + 1)) (va_up ln a0 (ss_n n)) (va_up (sk_f kd n (ss_n n) a0 x) (x / 32) 32) (va_up qt a0 sl) (sd_f df a0 x) mk th cn gv) H := hP
              have hD : va_D (gx_A hs 9) (gw_M ca hs rt (va_up (rz_f wd a0 x 0) x (nI 0)) (va_up (rz_f ob a0 x (a0 + 1)) x (a0 + 1)) (va_up ln a0 (ss_n n)) (va_up (sk_f kd n (ss_n n) a0 x) (x / 32) 32) (va_up qt a0 sl) (sd_f df a0 x) mk th cn gv) := hD
              refine lv_aload_n hx hb d_M_settle_110 rfl (lv_at hl 0 rfl) ?_
              refine va_get (D := D) (ci := 1) (v := .ref (hs 8)) (C := R_M) (T := F_M) (N := 11) hx hb ht in_M hown hK hP 0 rfl rfl 8 (by decide) (ht _ wm_354) (fun _ h9 => h9) rfl d_M_settle_111 ?_
              refine lv_iload hx hb d_M_settle_114 (lv_at hl 5 rfl) ?_
              refine lv_bipush (v := nI 32) hx hb d_M_settle_116 (by decide +kernel) ?_
              refine nx_idiv hx hb d_M_settle_118 (by omega) (by omega) (by omega) ?_
              refine lv_iconst (v := zb_e false) hx hb d_M_settle_119 (by decide +kernel) ?_
              refine nx_zast hx hb hK hP hD hS 8 7 (sd_f df a0 x) rfl rfl (x / 32) false (by omega) (by decide) d_M_settle_120 (fun H locs hP hD hS => ?_)
              have hP : va_P D cl_all (gw_M ca hs rt (va_up (rz_f wd a0 x 0) x (nI 0)) (va_up (rz_f ob a0 x (a0 + 1)) x (a0 + 1)) (va_up ln a0 (ss_n n)) (va_up (sk_f kd n (ss_n n) a0 x) (x / 32) 32) (va_up qt a0 sl) (va_up (sd_f df a0 x) (x / 32) false) mk th cn gv) H := hP
              have hD : va_D (gx_A hs 9) (gw_M ca hs rt (va_up (rz_f wd a0 x 0) x (nI 0)) (va_up (rz_f ob a0 x (a0 + 1)) x (a0 + 1)) (va_up ln a0 (ss_n n)) (va_up (sk_f kd n (ss_n n) a0 x) (x / 32) 32) (va_up qt a0 sl) (va_up (sd_f df a0 x) (x / 32) false) mk th cn gv) := hD
              refine lv_iinc (k := 5) (v := nI (x + 1)) (lv' := [(5, .int (nI (x + 1))), (0, .ref (hs 0)), (1, .int (nI a0)), (2, .int (nI n)), (3, .int (zb_e sl)), (4, .int (nI (ss_n n)))]) hx hb d_M_settle_121 hl rfl (nx_inc1 _) (by decide) rfl (fun ls hl => ?_)
              refine lv_goto (tgt := 43) hx hb d_M_settle_124 (by decide) ?_
              have ez : nI 0 = (0 : Int32) := nI_0
              rw [ez, rz_u wd 0 hx1, rz_u ob (a0 + 1) hx1, sk_u1 kd hx1 (show ¬ n ≤ 16 by omega) h99, sd_u df hx1] at hP hD
              exact ih43 _ (by omega) (x + 1) _ _ _ rfl (by omega) (by omega) (lv_sub hl [1, 2, 3, 4, 5, 0] rfl) hP hD hS
          · skip
            refine lv_iload hx hb d_M_settle_85 (lv_at hl 4 rfl) ?_
            refine lv_goto (tgt := 109) hx hb d_M_settle_87 (by decide) ?_
            refine nx_iast hx hb hK hP hD hS 7 6 nI (sk_f kd n (ss_n n) a0 x) rfl rfl (x / 32) (ss_n n) (by omega) (by decide) d_M_settle_109 (fun H locs hP hD hS => ?_)
            have hP : va_P D cl_all (gw_M ca hs rt (va_up (rz_f wd a0 x 0) x (nI 0)) (va_up (rz_f ob a0 x (a0 + 1)) x (a0 + 1)) (va_up ln a0 (ss_n n)) (va_up (sk_f kd n (ss_n n) a0 x) (x / 32) (ss_n n)) (va_up qt a0 sl) (sd_f df a0 x) mk th cn gv) H := hP
            have hD : va_D (gx_A hs 9) (gw_M ca hs rt (va_up (rz_f wd a0 x 0) x (nI 0)) (va_up (rz_f ob a0 x (a0 + 1)) x (a0 + 1)) (va_up ln a0 (ss_n n)) (va_up (sk_f kd n (ss_n n) a0 x) (x / 32) (ss_n n)) (va_up qt a0 sl) (sd_f df a0 x) mk th cn gv) := hD
            refine lv_aload_n hx hb d_M_settle_110 rfl (lv_at hl 0 rfl) ?_
            refine va_get (D := D) (ci := 1) (v := .ref (hs 8)) (C := R_M) (T := F_M) (N := 11) hx hb ht in_M hown hK hP 0 rfl rfl 8 (by decide) (ht _ wm_354) (fun _ h9 => h9) rfl d_M_settle_111 ?_
            refine lv_iload hx hb d_M_settle_114 (lv_at hl 5 rfl) ?_
            refine lv_bipush (v := nI 32) hx hb d_M_settle_116 (by decide +kernel) ?_
            refine nx_idiv hx hb d_M_settle_118 (by omega) (by omega) (by omega) ?_
            refine lv_iconst (v := zb_e false) hx hb d_M_settle_119 (by decide +kernel) ?_
            refine nx_zast hx hb hK hP hD hS 8 7 (sd_f df a0 x) rfl rfl (x / 32) false (by omega) (by decide) d_M_settle_120 (fun H locs hP hD hS => ?_)
            have hP : va_P D cl_all (gw_M ca hs rt (va_up (rz_f wd a0 x 0) x (nI 0)) (va_up (rz_f ob a0 x (a0 + 1)) x (a0 + 1)) (va_up ln a0 (ss_n n)) (va_up (sk_f kd n (ss_n n) a0 x) (x / 32) (ss_n n)) (va_up qt a0 sl) (va_up (sd_f df a0 x) (x / 32) false) mk th cn gv) H := hP
            have hD : va_D (gx_A hs 9) (gw_M ca hs rt (va_up (rz_f wd a0 x 0) x (nI 0)) (va_up (rz_f ob a0 x (a0 + 1)) x (a0 + 1)) (va_up ln a0 (ss_n n)) (va_up (sk_f kd n (ss_n n) a0 x) (x / 32) (ss_n n)) (va_up qt a0 sl) (va_up (sd_f df a0 x) (x / 32) false) mk th cn gv) := hD
            refine lv_iinc (k := 5) (v := nI (x + 1)) (lv' := [(5, .int (nI (x + 1))), (0, .ref (hs 0)), (1, .int (nI a0)), (2, .int (nI n)), (3, .int (zb_e sl)), (4, .int (nI (ss_n n)))]) hx hb d_M_settle_121 hl rfl (nx_inc1 _) (by decide) rfl (fun ls hl => ?_)
            refine lv_goto (tgt := 43) hx hb d_M_settle_124 (by decide) ?_
            have ez : nI 0 = (0 : Int32) := nI_0
            rw [ez, rz_u wd 0 hx1, rz_u ob (a0 + 1) hx1, sk_us kd hx1 h82, sd_u df hx1] at hP hD
            exact ih43 _ (by omega) (x + 1) _ _ _ rfl (by omega) (by omega) (lv_sub hl [1, 2, 3, 4, 5, 0] rfl) hP hD hS
    exact key43 _ (a0) _ _ _ rfl (Nat.le_refl _) (by omega) (lv_sub hl [2, 3, 4, 5, 1, 0] rfl) hP hD hS
  · skip
    refine lv_iload_n hx hb d_M_settle_6 rfl (lv_at hl 2 rfl) ?_
    refine gx_cS (n := 1) (own := R_M) (As := [.int (nI n)]) (rest := []) ⟨hx, hb, hml, hown, ht⟩ hg_all (c_M_sizeFor l (n) (by omega)) wm_391 wm_392 wm_36 wm_393 ⟨rfl, by decide, by decide, by decide +kernel⟩ rfl ⟨rfl, rfl⟩ ⟨by decide, by decide⟩ ⟨by decide, by decide⟩ hl.1 rfl (Nat.le_of_ble_eq_true rfl) d_M_settle_7 ?_
    refine lv_goto (tgt := 23) hx hb d_M_settle_10 (by decide) ?_
    refine nx_top (show nI (sz_f n) = nI (ss_n n) by rw [ss_s h3]) ?_
    refine lv_istore (lv' := [(4, .int (nI (ss_n n))), (0, .ref (hs 0)), (1, .int (nI a0)), (2, .int (nI n)), (3, .int (zb_e sl))]) hx hb d_M_settle_23 hl (by decide) rfl (fun ls hl => ?_)
    refine lv_aload_n hx hb d_M_settle_25 rfl (lv_at hl 1 rfl) ?_
    refine va_get (D := D) (ci := 1) (v := .ref (hs 4)) (C := R_M) (T := F_M) (N := 11) hx hb ht in_M hown hK hP 0 rfl rfl 4 (by decide) (ht _ wm_350) (fun _ h9 => h9) rfl d_M_settle_26 ?_
    refine lv_iload_n hx hb d_M_settle_29 rfl (lv_at hl 2 rfl) ?_
    refine lv_iload hx hb d_M_settle_30 (lv_at hl 0 rfl) ?_
    refine nx_iast hx hb hK hP hD hS 4 3 nI ln rfl rfl a0 (ss_n n) (by omega) (by decide) d_M_settle_32 (fun H locs hP hD hS => ?_)
    have hP : va_P D cl_all (gw_M ca hs rt wd ob (va_up ln a0 (ss_n n)) kd qt df mk th cn gv) H := hP
    have hD : va_D (gx_A hs 9) (gw_M ca hs rt wd ob (va_up ln a0 (ss_n n)) kd qt df mk th cn gv) := hD
    refine lv_aload_n hx hb d_M_settle_33 rfl (lv_at hl 1 rfl) ?_
    refine va_get (D := D) (ci := 1) (v := .ref (hs 5)) (C := R_M) (T := F_M) (N := 11) hx hb ht in_M hown hK hP 0 rfl rfl 5 (by decide) (ht _ wm_351) (fun _ h9 => h9) rfl d_M_settle_34 ?_
    refine lv_iload_n hx hb d_M_settle_37 rfl (lv_at hl 2 rfl) ?_
    refine lv_iload_n hx hb d_M_settle_38 rfl (lv_at hl 4 rfl) ?_
    refine nx_zast hx hb hK hP hD hS 5 4 qt rfl rfl a0 sl (by omega) (by decide) d_M_settle_39 (fun H locs hP hD hS => ?_)
    have hP : va_P D cl_all (gw_M ca hs rt wd ob (va_up ln a0 (ss_n n)) kd (va_up qt a0 sl) df mk th cn gv) H := hP
    have hD : va_D (gx_A hs 9) (gw_M ca hs rt wd ob (va_up ln a0 (ss_n n)) kd (va_up qt a0 sl) df mk th cn gv) := hD
    rw [rz_0 ob a0 (a0 + 1), rz_0 wd a0 0, sk_0 kd n (ss_n n) a0, sd_0 df a0] at hP hD
    have hP : va_P D cl_all (gw_M ca hs rt (rz_f wd a0 a0 0) (rz_f ob a0 a0 (a0 + 1)) (va_up ln a0 (ss_n n)) (sk_f kd n (ss_n n) a0 a0) (va_up qt a0 sl) (sd_f df a0 a0) mk th cn gv) H := hP
    have hD : va_D (gx_A hs 9) (gw_M ca hs rt (rz_f wd a0 a0 0) (rz_f ob a0 a0 (a0 + 1)) (va_up ln a0 (ss_n n)) (sk_f kd n (ss_n n) a0 a0) (va_up qt a0 sl) (sd_f df a0 a0) mk th cn gv) := hD
    refine lv_iload_n hx hb d_M_settle_40 rfl (lv_at hl 2 rfl) ?_
    refine lv_istore (lv' := [(5, .int (nI a0)), (4, .int (nI (ss_n n))), (0, .ref (hs 0)), (1, .int (nI a0)), (2, .int (nI n)), (3, .int (zb_e sl))]) hx hb d_M_settle_41 hl (by decide) rfl (fun ls hl => ?_)
    have key43 : ∀ (n9 : Nat) (x : Nat) (H : Heap) (locs : List Loc) (ls : Array Slot), a0 + ss_n n - x = n9 → a0 ≤ x → x ≤ a0 + ss_n n → lv_has ls 6 [(0, .ref (hs 0)), (1, .int (nI a0)), (2, .int (nI n)), (3, .int (zb_e sl)), (4, .int (nI (ss_n n))), (5, .int (nI x))] → va_P D cl_all (gw_M ca hs rt (rz_f wd a0 x 0) (rz_f ob a0 x (a0 + 1)) (va_up ln a0 (ss_n n)) (sk_f kd n (ss_n n) a0 x) (va_up qt a0 sl) (sd_f df a0 x) mk th cn gv) H → va_D (gx_A hs 9) (gw_M ca hs rt (rz_f wd a0 x 0) (rz_f ob a0 x (a0 + 1)) (va_up ln a0 (ss_n n)) (sk_f kd n (ss_n n) a0 x) (va_up qt a0 sl) (sd_f df a0 x) mk th cn gv) → va_S (gx_A hs 9) s.heap H locs → W p l e (rm_d 1) s m args below meth c H locs 0 0 Q (F0 m 43 ls []) := by
      intro n9
      induction n9 using Nat.strongRecOn with
      | ind n9 ih43 =>
        intro x H locs ls hn43 hx1 hx2 hl hP hD hS
        refine lv_iload hx hb d_M_settle_43 (lv_at hl 5 rfl) ?_
        refine lv_iload_n hx hb d_M_settle_45 rfl (lv_at hl 1 rfl) ?_
        refine lv_iload hx hb d_M_settle_46 (lv_at hl 4 rfl) ?_
        refine nx_iadd hx hb d_M_settle_48 ?_
        refine nx_icmp_ge (tgt := 127) hx hb d_M_settle_49 (by decide) (by omega) (by omega) (fun h49 => ?_) (fun h49 => ?_)
        · skip
          have ex : x = a0 + ss_n n := by omega
          subst ex
          rw [sk_e kd (show 1 ≤ ss_n n by omega), sd_e df (show 1 ≤ ss_n n by omega), show rz_f ob a0 (a0 + ss_n n) (a0 + 1) = st_ob ob a0 (ss_n n) from rfl] at hP hD
          have hP : va_P D cl_all (gw_M ca hs rt (rz_f wd a0 (a0 + ss_n n) 0) (st_ob ob a0 (ss_n n)) (va_up ln a0 (ss_n n)) (st_kd kd a0 (ss_n n) n) (va_up qt a0 sl) (st_df df a0 (ss_n n)) mk th cn gv) H := hP
          have hD : va_D (gx_A hs 9) (gw_M ca hs rt (rz_f wd a0 (a0 + ss_n n) 0) (st_ob ob a0 (ss_n n)) (va_up ln a0 (ss_n n)) (st_kd kd a0 (ss_n n) n) (va_up qt a0 sl) (st_df df a0 (ss_n n)) mk th cn gv) := hD
          have hP := gx_ext hP (q0 := 2) (g := wd) rfl (fun j hj => by
              unfold rz_f
              by_cases q : a0 ≤ j ∧ j < a0 + ss_n n
              · rw [if_pos q]
                exact (hw j hj (hok.2.2.2.1 j q.1 q.2)).symm
              · rw [if_neg q])
          have hD := gx_Dadr hD (w' := gw_M ca hs rt wd (st_ob ob a0 (ss_n n)) (va_up ln a0 (ss_n n)) (st_kd kd a0 (ss_n n) n) (va_up qt a0 sl) (st_df df a0 (ss_n n)) mk th cn gv) (gw_M_adr.trans gw_M_adr.symm)
          have hP : va_P D cl_all (gw_M ca hs rt wd (st_ob ob a0 (ss_n n)) (va_up ln a0 (ss_n n)) (st_kd kd a0 (ss_n n) n) (va_up qt a0 sl) (st_df df a0 (ss_n n)) mk th cn gv) H := hP
          have hD : va_D (gx_A hs 9) (gw_M ca hs rt wd (st_ob ob a0 (ss_n n)) (va_up ln a0 (ss_n n)) (st_kd kd a0 (ss_n n) n) (va_up qt a0 sl) (st_df df a0 (ss_n n)) mk th cn gv) := hD
          refine hret 127 ls _ _ _ d_M_settle_127 hP hS ?_ ?_
          · exact gw_M_adr.trans gw_M_adr.symm
          · exact ⟨rfl, rfl⟩
        · skip
          refine lv_aload_n hx hb d_M_settle_52 rfl (lv_at hl 0 rfl) ?_
          refine va_get (D := D) (ci := 1) (v := .ref (hs 3)) (C := R_M) (T := F_M) (N := 11) hx hb ht in_M hown hK hP 0 rfl rfl 3 (by decide) (ht _ wm_349) (fun _ h9 => h9) rfl d_M_settle_53 ?_
          refine lv_iload hx hb d_M_settle_56 (lv_at hl 5 rfl) ?_
          refine lv_iload_n hx hb d_M_settle_58 rfl (lv_at hl 1 rfl) ?_
          refine lv_iconst (v := nI 1) hx hb d_M_settle_59 (by decide +kernel) ?_
          refine nx_iadd hx hb d_M_settle_60 ?_
          refine nx_iast hx hb hK hP hD hS 3 2 nI (rz_f ob a0 x (a0 + 1)) rfl rfl x (a0 + 1) (by omega) (by decide) d_M_settle_61 (fun H locs hP hD hS => ?_)
          have hP : va_P D cl_all (gw_M ca hs rt (rz_f wd a0 x 0) (va_up (rz_f ob a0 x (a0 + 1)) x (a0 + 1)) (va_up ln a0 (ss_n n)) (sk_f kd n (ss_n n) a0 x) (va_up qt a0 sl) (sd_f df a0 x) mk th cn gv) H := hP
          have hD : va_D (gx_A hs 9) (gw_M ca hs rt (rz_f wd a0 x 0) (va_up (rz_f ob a0 x (a0 + 1)) x (a0 + 1)) (va_up ln a0 (ss_n n)) (sk_f kd n (ss_n n) a0 x) (va_up qt a0 sl) (sd_f df a0 x) mk th cn gv) := hD
          refine lv_aload_n hx hb d_M_settle_62 rfl (lv_at hl 0 rfl) ?_
          refine va_get (D := D) (ci := 1) (v := .ref (hs 2)) (C := R_M) (T := F_M) (N := 11) hx hb ht in_M hown hK hP 0 rfl rfl 2 (by decide) (ht _ wm_348) (fun _ h9 => h9) rfl d_M_settle_63 ?_
          refine lv_iload hx hb d_M_settle_66 (lv_at hl 5 rfl) ?_
          refine lv_iconst (v := nI 0) hx hb d_M_settle_68 (by decide +kernel) ?_
          refine nx_rast hx hb hK hP hD hS 2 1 (rz_f wd a0 x 0) rfl rfl x (nI 0) (by omega) (by decide) d_M_settle_69 (fun H locs hP hD hS => ?_)
          have hP : va_P D cl_all (gw_M ca hs rt (va_up (rz_f wd a0 x 0) x (nI 0)) (va_up (rz_f ob a0 x (a0 + 1)) x (a0 + 1)) (va_up ln a0 (ss_n n)) (sk_f kd n (ss_n n) a0 x) (va_up qt a0 sl) (sd_f df a0 x) mk th cn gv) H := hP
          have hD : va_D (gx_A hs 9) (gw_M ca hs rt (va_up (rz_f wd a0 x 0) x (nI 0)) (va_up (rz_f ob a0 x (a0 + 1)) x (a0 + 1)) (va_up ln a0 (ss_n n)) (sk_f kd n (ss_n n) a0 x) (va_up qt a0 sl) (sd_f df a0 x) mk th cn gv) := hD
          refine lv_aload_n hx hb d_M_settle_70 rfl (lv_at hl 0 rfl) ?_
          refine va_get (D := D) (ci := 1) (v := .ref (hs 7)) (C := R_M) (T := F_M) (N := 11) hx hb ht in_M hown hK hP 0 rfl rfl 7 (by decide) (ht _ wm_353) (fun _ h9 => h9) rfl d_M_settle_71 ?_
          refine lv_iload hx hb d_M_settle_74 (lv_at hl 5 rfl) ?_
          refine lv_bipush (v := nI 32) hx hb d_M_settle_76 (by decide +kernel) ?_
          refine nx_idiv hx hb d_M_settle_78 (by omega) (by omega) (by omega) ?_
          refine lv_iload_n hx hb d_M_settle_79 rfl (lv_at hl 2 rfl) ?_
          refine lv_bipush (v := nI 16) hx hb d_M_settle_80 (by decide +kernel) ?_
          refine nx_icmp_gt (tgt := 90) hx hb d_M_settle_82 (by decide) (by omega) (by omega) (fun h82 => ?_) (fun h82 => ?_)
          · skip
            refine lv_iload hx hb d_M_settle_90 (lv_at hl 5 rfl) ?_
            refine lv_bipush (v := nI 32) hx hb d_M_settle_92 (by decide +kernel) ?_
            refine nx_idiv hx hb d_M_settle_94 (by omega) (by omega) (by omega) ?_
            refine lv_iload_n hx hb d_M_settle_95 rfl (lv_at hl 1 rfl) ?_
            refine lv_bipush (v := nI 32) hx hb d_M_settle_96 (by decide +kernel) ?_
            refine nx_idiv hx hb d_M_settle_98 (by omega) (by omega) (by omega) ?_
            refine nx_icmp_ne (tgt := 107) hx hb d_M_settle_99 (by decide) (by omega) (by omega) (fun h99 => ?_) (fun h99 => ?_)
            · skip
              refine lv_bipush (v := nI 33) hx hb d_M_settle_107 (by decide +kernel) ?_
              refine nx_iast hx hb hK hP hD hS 7 6 nI (sk_f kd n (ss_n n) a0 x) rfl rfl (x / 32) 33 (by omega) (by decide) d_M_settle_109 (fun H locs hP hD hS => ?_)
              have hP : va_P D cl_all (gw_M ca hs rt (va_up (rz_f wd a0 x 0) x (nI 0)) (va_up (rz_f ob a0 x (a0 + 1)) x (a0 + 1)) (va_up ln a0 (ss_n n)) (va_up (sk_f kd n (ss_n n) a0 x) (x / 32) 33) (va_up qt a0 sl) (sd_f df a0 x) mk th cn gv) H := hP
              have hD : va_D (gx_A hs 9) (gw_M ca hs rt (va_up (rz_f wd a0 x 0) x (nI 0)) (va_up (rz_f ob a0 x (a0 + 1)) x (a0 + 1)) (va_up ln a0 (ss_n n)) (va_up (sk_f kd n (ss_n n) a0 x) (x / 32) 33) (va_up qt a0 sl) (sd_f df a0 x) mk th cn gv) := hD
              refine lv_aload_n hx hb d_M_settle_110 rfl (lv_at hl 0 rfl) ?_
              refine va_get (D := D) (ci := 1) (v := .ref (hs 8)) (C := R_M) (T := F_M) (N := 11) hx hb ht in_M hown hK hP 0 rfl rfl 8 (by decide) (ht _ wm_354) (fun _ h9 => h9) rfl d_M_settle_111 ?_
              refine lv_iload hx hb d_M_settle_114 (lv_at hl 5 rfl) ?_
              refine lv_bipush (v := nI 32) hx hb d_M_settle_116 (by decide +kernel) ?_
              refine nx_idiv hx hb d_M_settle_118 (by omega) (by omega) (by omega) ?_
              refine lv_iconst (v := zb_e false) hx hb d_M_settle_119 (by decide +kernel) ?_
              refine nx_zast hx hb hK hP hD hS 8 7 (sd_f df a0 x) rfl rfl (x / 32) false (by omega) (by decide) d_M_settle_120 (fun H locs hP hD hS => ?_)
              have hP : va_P D cl_all (gw_M ca hs rt (va_up (rz_f wd a0 x 0) x (nI 0)) (va_up (rz_f ob a0 x (a0 + 1)) x (a0 + 1)) (va_up ln a0 (ss_n n)) (va_up (sk_f kd n (ss_n n) a0 x) (x / 32) 33) (va_up qt a0 sl) (va_up (sd_f df a0 x) (x / 32) false) mk th cn gv) H := hP
              have hD : va_D (gx_A hs 9) (gw_M ca hs rt (va_up (rz_f wd a0 x 0) x (nI 0)) (va_up (rz_f ob a0 x (a0 + 1)) x (a0 + 1)) (va_up ln a0 (ss_n n)) (va_up (sk_f kd n (ss_n n) a0 x) (x / 32) 33) (va_up qt a0 sl) (va_up (sd_f df a0 x) (x / 32) false) mk th cn gv) := hD
              refine lv_iinc (k := 5) (v := nI (x + 1)) (lv' := [(5, .int (nI (x + 1))), (0, .ref (hs 0)), (1, .int (nI a0)), (2, .int (nI n)), (3, .int (zb_e sl)), (4, .int (nI (ss_n n)))]) hx hb d_M_settle_121 hl rfl (nx_inc1 _) (by decide) rfl (fun ls hl => ?_)
              refine lv_goto (tgt := 43) hx hb d_M_settle_124 (by decide) ?_
              have ez : nI 0 = (0 : Int32) := nI_0
              rw [ez, rz_u wd 0 hx1, rz_u ob (a0 + 1) hx1, sk_u2 kd hx1 (show ¬ n ≤ 16 by omega) h99, sd_u df hx1] at hP hD
              exact ih43 _ (by omega) (x + 1) _ _ _ rfl (by omega) (by omega) (lv_sub hl [1, 2, 3, 4, 5, 0] rfl) hP hD hS
            · skip
              refine lv_bipush (v := nI 32) hx hb d_M_settle_102 (by decide +kernel) ?_
              refine lv_goto (tgt := 109) hx hb d_M_settle_104 (by decide) ?_
              refine nx_iast hx hb hK hP hD hS 7 6 nI (sk_f kd n (ss_n n) a0 x) rfl rfl (x / 32) 32 (by omega) (by decide) d_M_settle_109 (fun H locs hP hD hS => ?_)
              have hP : va_P D cl_all (gw_M ca hs rt (va_up (rz_f wd a0 x 0) x (nI 0)) (va_up (rz_f ob a0 x (a0 + 1)) x (a0 + 1)) (va_up ln a0 (ss_n n)) (va_up (sk_f kd n (ss_n n) a0 x) (x / 32) 32) (va_up qt a0 sl) (sd_f df a0 x) mk th cn gv) H := hP
              have hD : va_D (gx_A hs 9) (gw_M ca hs rt (va_up (rz_f wd a0 x 0) x (nI 0)) (va_up (rz_f ob a0 x (a0 + 1)) x (a0 + 1)) (va_up ln a0 (ss_n n)) (va_up (sk_f kd n (ss_n n) a0 x) (x / 32) 32) (va_up qt a0 sl) (sd_f df a0 x) mk th cn gv) := hD
              refine lv_aload_n hx hb d_M_settle_110 rfl (lv_at hl 0 rfl) ?_
              refine va_get (D := D) (ci := 1) (v := .ref (hs 8)) (C := R_M) (T := F_M) (N := 11) hx hb ht in_M hown hK hP 0 rfl rfl 8 (by decide) (ht _ wm_354) (fun _ h9 => h9) rfl d_M_settle_111 ?_
              refine lv_iload hx hb d_M_settle_114 (lv_at hl 5 rfl) ?_
              refine lv_bipush (v := nI 32) hx hb d_M_settle_116 (by decide +kernel) ?_
              refine nx_idiv hx hb d_M_settle_118 (by omega) (by omega) (by omega) ?_
              refine lv_iconst (v := zb_e false) hx hb d_M_settle_119 (by decide +kernel) ?_
              refine nx_zast hx hb hK hP hD hS 8 7 (sd_f df a0 x) rfl rfl (x / 32) false (by omega) (by decide) d_M_settle_120 (fun H locs hP hD hS => ?_)
              have hP : va_P D cl_all (gw_M ca hs rt (va_up (rz_f wd a0 x 0) x (nI 0)) (va_up (rz_f ob a0 x (a0 + 1)) x (a0 + 1)) (va_up ln a0 (ss_n n)) (va_up (sk_f kd n (ss_n n) a0 x) (x / 32) 32) (va_up qt a0 sl) (va_up (sd_f df a0 x) (x / 32) false) mk th cn gv) H := hP
              have hD : va_D (gx_A hs 9) (gw_M ca hs rt (va_up (rz_f wd a0 x 0) x (nI 0)) (va_up (rz_f ob a0 x (a0 + 1)) x (a0 + 1)) (va_up ln a0 (ss_n n)) (va_up (sk_f kd n (ss_n n) a0 x) (x / 32) 32) (va_up qt a0 sl) (va_up (sd_f df a0 x) (x / 32) false) mk th cn gv) := hD
              refine lv_iinc (k := 5) (v := nI (x + 1)) (lv' := [(5, .int (nI (x + 1))), (0, .ref (hs 0)), (1, .int (nI a0)), (2, .int (nI n)), (3, .int (zb_e sl)), (4, .int (nI (ss_n n)))]) hx hb d_M_settle_121 hl rfl (nx_inc1 _) (by decide) rfl (fun ls hl => ?_)
              refine lv_goto (tgt := 43) hx hb d_M_settle_124 (by decide) ?_
              have ez : nI 0 = (0 : Int32) := nI_0
              rw [ez, rz_u wd 0 hx1, rz_u ob (a0 + 1) hx1, sk_u1 kd hx1 (show ¬ n ≤ 16 by omega) h99, sd_u df hx1] at hP hD
              exact ih43 _ (by omega) (x + 1) _ _ _ rfl (by omega) (by omega) (lv_sub hl [1, 2, 3, 4, 5, 0] rfl) hP hD hS
          · skip
            refine lv_iload hx hb d_M_settle_85 (lv_at hl 4 rfl) ?_
            refine lv_goto (tgt := 109) hx hb d_M_settle_87 (by decide) ?_
            refine nx_iast hx hb hK hP hD hS 7 6 nI (sk_f kd n (ss_n n) a0 x) rfl rfl (x / 32) (ss_n n) (by omega) (by decide) d_M_settle_109 (fun H locs hP hD hS => ?_)
            have hP : va_P D cl_all (gw_M ca hs rt (va_up (rz_f wd a0 x 0) x (nI 0)) (va_up (rz_f ob a0 x (a0 + 1)) x (a0 + 1)) (va_up ln a0 (ss_n n)) (va_up (sk_f kd n (ss_n n) a0 x) (x / 32) (ss_n n)) (va_up qt a0 sl) (sd_f df a0 x) mk th cn gv) H := hP
            have hD : va_D (gx_A hs 9) (gw_M ca hs rt (va_up (rz_f wd a0 x 0) x (nI 0)) (va_up (rz_f ob a0 x (a0 + 1)) x (a0 + 1)) (va_up ln a0 (ss_n n)) (va_up (sk_f kd n (ss_n n) a0 x) (x / 32) (ss_n n)) (va_up qt a0 sl) (sd_f df a0 x) mk th cn gv) := hD
            refine lv_aload_n hx hb d_M_settle_110 rfl (lv_at hl 0 rfl) ?_
            refine va_get (D := D) (ci := 1) (v := .ref (hs 8)) (C := R_M) (T := F_M) (N := 11) hx hb ht in_M hown hK hP 0 rfl rfl 8 (by decide) (ht _ wm_354) (fun _ h9 => h9) rfl d_M_settle_111 ?_
            refine lv_iload hx hb d_M_settle_114 (lv_at hl 5 rfl) ?_
            refine lv_bipush (v := nI 32) hx hb d_M_settle_116 (by decide +kernel) ?_
            refine nx_idiv hx hb d_M_settle_118 (by omega) (by omega) (by omega) ?_
            refine lv_iconst (v := zb_e false) hx hb d_M_settle_119 (by decide +kernel) ?_
            refine nx_zast hx hb hK hP hD hS 8 7 (sd_f df a0 x) rfl rfl (x / 32) false (by omega) (by decide) d_M_settle_120 (fun H locs hP hD hS => ?_)
            have hP : va_P D cl_all (gw_M ca hs rt (va_up (rz_f wd a0 x 0) x (nI 0)) (va_up (rz_f ob a0 x (a0 + 1)) x (a0 + 1)) (va_up ln a0 (ss_n n)) (va_up (sk_f kd n (ss_n n) a0 x) (x / 32) (ss_n n)) (va_up qt a0 sl) (va_up (sd_f df a0 x) (x / 32) false) mk th cn gv) H := hP
            have hD : va_D (gx_A hs 9) (gw_M ca hs rt (va_up (rz_f wd a0 x 0) x (nI 0)) (va_up (rz_f ob a0 x (a0 + 1)) x (a0 + 1)) (va_up ln a0 (ss_n n)) (va_up (sk_f kd n (ss_n n) a0 x) (x / 32) (ss_n n)) (va_up qt a0 sl) (va_up (sd_f df a0 x) (x / 32) false) mk th cn gv) := hD
            refine lv_iinc (k := 5) (v := nI (x + 1)) (lv' := [(5, .int (nI (x + 1))), (0, .ref (hs 0)), (1, .int (nI a0)), (2, .int (nI n)), (3, .int (zb_e sl)), (4, .int (nI (ss_n n)))]) hx hb d_M_settle_121 hl rfl (nx_inc1 _) (by decide) rfl (fun ls hl => ?_)
            refine lv_goto (tgt := 43) hx hb d_M_settle_124 (by decide) ?_
            have ez : nI 0 = (0 : Int32) := nI_0
            rw [ez, rz_u wd 0 hx1, rz_u ob (a0 + 1) hx1, sk_us kd hx1 h82, sd_u df hx1] at hP hD
            exact ih43 _ (by omega) (x + 1) _ _ _ rfl (by omega) (by omega) (lv_sub hl [1, 2, 3, 4, 5, 0] rfl) hP hD hS
    exact key43 _ (a0) _ _ _ rfl (Nat.le_refl _) (by omega) (lv_sub hl [2, 3, 4, 5, 1, 0] rfl) hP hD hS

set_option maxHeartbeats 4000000 in
set_option maxRecDepth 100000 in
theorem c_M_gather (l : Launch) (D : va_G) (ca : Nat → ClassId) (hs : Nat → Nat) (rt : Nat → Int32) (wd : Nat → Int32) (ob : Nat → Nat) (ln : Nat → Nat) (kd : Nat → Nat) (qt : Nat → Bool) (df : Nat → Bool) (mk : Nat → Bool) (th : Nat) (cn : Nat) (gv : Nat) (hv : iv_a ob ln kd wd (iv_c ob)) : Met l y_M_gather (Cond.code y_M_gather b_M_gather 3 none :: wa_all) (rm_d 4) (va_Pc [.ref (hs 0)] (gx_I D cl_all (ty_M ca) (gw_M ca hs rt wd ob ln kd qt df mk th cn gv))) (gx_Q D cl_all (gx_A hs 9) (gw_M ca hs rt wd ob ln kd qt df mk th cn gv) (fun v w' => v = none ∧ w' = gw_M ca hs rt (co_wd wd ob (co_mk rt wd ob ln qt)) (co_ob ob (co_mk rt wd ob ln qt)) ln (co_kd kd (co_ob ob (co_mk rt wd ob ln qt))) qt (co_df rt wd ob ln kd qt) (co_mk rt wd ob ln qt) th (cn + 1) (iv_c ob - iv_c (co_ob ob (co_mk rt wd ob ln qt))))) 0 0 (gx_A hs 9) := by
  refine gx_mutV (by decide) (Nat.le_of_ble_eq_true rfl) gw_M_in ?_
  intro p e s m args below meth c ls Q hx hb hml ht hown hret hP hK hD hS hl
  have hl : lv_has ls 3 [(0, .ref (hs 0))] := hl
  have hown : s.vm.findClass R_M = some m.cls := hown
  have hk : ∀ b, b < 16 → kd b < 34 := fun b hb => iv_kl hv.2.1 hb
  have hov := hv.1
  have hP : va_P D cl_all (gw_M ca hs rt wd ob ln kd qt df mk th cn gv) s.heap := hP
  refine lv_aload_n hx hb d_M_gather_0 rfl (lv_at hl 0 rfl) ?_
  refine lv_dup hx hb d_M_gather_1 rfl ?_
  refine va_get (D := D) (ci := 1) (v := .int (nI cn)) (C := R_M) (T := F_M) (N := 11) hx hb ht in_M hown hK hP 0 rfl rfl 9 (by decide) (ht _ wm_355) (fun _ h9 => h9) rfl d_M_gather_2 ?_
  refine lv_iconst (v := nI 1) hx hb d_M_gather_5 (by decide +kernel) ?_
  refine nx_iadd hx hb d_M_gather_6 ?_
  refine va_put (D := D) (ci := 1) (v := .int (nI (cn + 1))) (ty := .int) (C := R_M) (T := F_M) (N := 11) hx hb ht in_M t_M t_M_ok n_M_ne hown hK hP hD hS 0 rfl rfl 9 (by decide) (ht _ wm_355) (fun _ h9 => h9) rfl (by decide +kernel) rfl rfl (Nat.le_of_ble_eq_true rfl) d_M_gather_7 (fun H locs hP hD hS => ?_)
  have hP : va_P D cl_all (gw_M ca hs rt wd ob ln kd qt df mk th (cn + 1) gv) H := hP
  have hD : va_D (gx_A hs 9) (gw_M ca hs rt wd ob ln kd qt df mk th (cn + 1) gv) := hD
  refine lv_aload_n hx hb d_M_gather_10 rfl (lv_at hl 0 rfl) ?_
  refine lv_iconst (v := nI 0) hx hb d_M_gather_11 (by decide +kernel) ?_
  refine va_put (D := D) (ci := 1) (v := .int (nI 0)) (ty := .int) (C := R_M) (T := F_M) (N := 11) hx hb ht in_M t_M t_M_ok n_M_ne hown hK hP hD hS 0 rfl rfl 10 (by decide) (ht _ wm_356) (fun _ h9 => h9) rfl (by decide +kernel) rfl rfl (Nat.le_of_ble_eq_true rfl) d_M_gather_12 (fun H locs hP hD hS => ?_)
  have hP : va_P D cl_all (gw_M ca hs rt wd ob ln kd qt df mk th (cn + 1) 0) H := hP
  have hD : va_D (gx_A hs 9) (gw_M ca hs rt wd ob ln kd qt df mk th (cn + 1) 0) := hD
  refine lv_iconst (v := nI 0) hx hb d_M_gather_15 (by decide +kernel) ?_
  refine lv_istore_n (lv' := [(1, .int (nI 0)), (0, .ref (hs 0))]) hx hb d_M_gather_16 rfl hl (by decide) rfl (fun ls hl => ?_)
  have key17 : ∀ (n9 : Nat) (i : Nat) (df2 : Nat → Bool) (H : Heap) (locs : List Loc) (ls : Array Slot), 16 - i = n9 → i ≤ 16 → (∀ j, df2 j = if j < i then false else df j) → lv_has ls 3 [(0, .ref (hs 0)), (1, .int (nI i))] → va_P D cl_all (gw_M ca hs rt wd ob ln kd qt df2 mk th (cn + 1) 0) H → va_D (gx_A hs 9) (gw_M ca hs rt wd ob ln kd qt df2 mk th (cn + 1) 0) → va_S (gx_A hs 9) s.heap H locs → W p l e (rm_d 4) s m args below meth c H locs 0 0 Q (F0 m 17 ls []) := by
    intro n9
    induction n9 using Nat.strongRecOn with
    | ind n9 ih17 =>
      intro i df2 H locs ls hn17 hi hd2 hl hP hD hS
      refine lv_iload_n hx hb d_M_gather_17 rfl (lv_at hl 1 rfl) ?_
      refine lv_bipush (v := nI 16) hx hb d_M_gather_18 (by decide +kernel) ?_
      refine nx_icmp_ge (tgt := 36) hx hb d_M_gather_20 (by decide) (by omega) (by omega) (fun h20 => ?_) (fun h20 => ?_)
      · skip
        have hP := gx_ext hP (q0 := 8) (g := fun j => zb_e (((fun _ : Nat => false)) j)) rfl (fun j hj => by rw [hd2 j, if_pos (by omega)])
        have hD := gx_Dadr hD (w' := gw_M ca hs rt wd ob ln kd qt ((fun _ : Nat => false)) mk th (cn + 1) 0) (gw_M_adr.trans gw_M_adr.symm)
        have hP : va_P D cl_all (gw_M ca hs rt wd ob ln kd qt ((fun _ : Nat => false)) mk th (cn + 1) 0) H := hP
        have hD : va_D (gx_A hs 9) (gw_M ca hs rt wd ob ln kd qt ((fun _ : Nat => false)) mk th (cn + 1) 0) := hD
        refine lv_iconst (v := nI 0) hx hb d_M_gather_36 (by decide +kernel) ?_
        refine lv_istore_n (lv' := [(1, .int (nI 0)), (0, .ref (hs 0))]) hx hb d_M_gather_37 rfl hl (by decide) rfl (fun ls hl => ?_)
        have key38 : ∀ (n9 : Nat) (i : Nat) (mk2 : Nat → Bool) (H : Heap) (locs : List Loc) (ls : Array Slot), 512 - i = n9 → i ≤ 512 → (∀ j, mk2 j = if j < i then false else mk j) → lv_has ls 3 [(0, .ref (hs 0)), (1, .int (nI i))] → va_P D cl_all (gw_M ca hs rt wd ob ln kd qt ((fun _ : Nat => false)) mk2 th (cn + 1) 0) H → va_D (gx_A hs 9) (gw_M ca hs rt wd ob ln kd qt ((fun _ : Nat => false)) mk2 th (cn + 1) 0) → va_S (gx_A hs 9) s.heap H locs → W p l e (rm_d 4) s m args below meth c H locs 0 0 Q (F0 m 38 ls []) := by
          intro n9
          induction n9 using Nat.strongRecOn with
          | ind n9 ih38 =>
            intro i mk2 H locs ls hn38 hi hm2 hl hP hD hS
            refine lv_iload_n hx hb d_M_gather_38 rfl (lv_at hl 1 rfl) ?_
            refine lv_sipush (v := nI 512) hx hb d_M_gather_39 (by decide +kernel) ?_
            refine nx_icmp_ge (tgt := 58) hx hb d_M_gather_42 (by decide) (by omega) (by omega) (fun h42 => ?_) (fun h42 => ?_)
            · skip
              have hP := gx_ext hP (q0 := 6) (g := fun j => zb_e (((fun _ : Nat => false)) j)) rfl (fun j hj => by rw [hm2 j, if_pos (by omega)])
              have hD := gx_Dadr hD (w' := gw_M ca hs rt wd ob ln kd qt ((fun _ : Nat => false)) ((fun _ : Nat => false)) th (cn + 1) 0) (gw_M_adr.trans gw_M_adr.symm)
              have hP : va_P D cl_all (gw_M ca hs rt wd ob ln kd qt ((fun _ : Nat => false)) ((fun _ : Nat => false)) th (cn + 1) 0) H := hP
              have hD : va_D (gx_A hs 9) (gw_M ca hs rt wd ob ln kd qt ((fun _ : Nat => false)) ((fun _ : Nat => false)) th (cn + 1) 0) := hD
              refine lv_iconst (v := zb_e true) hx hb d_M_gather_58 (by decide +kernel) ?_
              refine lv_istore_n (lv' := [(1, .int (zb_e true)), (0, .ref (hs 0))]) hx hb d_M_gather_59 rfl hl (by decide) rfl (fun ls hl => ?_)
              have key60 : ∀ (n9 : Nat) (mo : Bool) (df2 : Nat → Bool) (mk2 : Nat → Bool) (P2 : Int32 → Prop) (H : Heap) (locs : List Loc) (ls : Array Slot), 2 * (512 - cn_t mk2 512) + (if mo = true then 1 else 0) = n9 → mk_i ob kd mk2 df2 P2 → (∀ w, P2 w → mk_s rt wd ln qt (mk_r rt wd ob ln qt) w) → (mo = false → ∀ w, mk_s rt wd ln qt (fun p => mk2 p = true) w → P2 w) → lv_has ls 3 [(0, .ref (hs 0)), (1, .int (zb_e mo))] → va_P D cl_all (gw_M ca hs rt wd ob ln kd qt df2 mk2 th (cn + 1) 0) H → va_D (gx_A hs 9) (gw_M ca hs rt wd ob ln kd qt df2 mk2 th (cn + 1) 0) → va_S (gx_A hs 9) s.heap H locs → W p l e (rm_d 4) s m args below meth c H locs 0 0 Q (F0 m 60 ls []) := by
                intro n9
                induction n9 using Nat.strongRecOn with
                | ind n9 ih60 =>
                  intro mo df2 mk2 P2 H locs ls hn60 hmi2 hsn2 hcm hl hP hD hS
                  refine lv_iload_n hx hb d_M_gather_60 rfl (lv_at hl 1 rfl) ?_
                  refine nx_if_eq_b (tgt := 72) hx hb d_M_gather_61 (by decide) (fun h61 => ?_) (fun h61 => ?_)
                  · skip
                    obtain ⟨hE1, hE2⟩ := mk_end hmi2 hsn2 (hcm h61)
                    have e1 : mk2 = co_mk rt wd ob ln qt := funext fun p => bl_eq (hE1 p)
                    have e2 : df2 = co_df rt wd ob ln kd qt := funext fun b => bl_eq (hE2 b)
                    subst e1
                    subst e2
                    have hP : va_P D cl_all (gw_M ca hs rt wd ob ln kd qt (co_df rt wd ob ln kd qt) (co_mk rt wd ob ln qt) th (cn + 1) 0) H := hP
                    have hD : va_D (gx_A hs 9) (gw_M ca hs rt wd ob ln kd qt (co_df rt wd ob ln kd qt) (co_mk rt wd ob ln qt) th (cn + 1) 0) := hD
                    refine lv_iconst (v := nI 0) hx hb d_M_gather_72 (by decide +kernel) ?_
                    refine lv_istore_n (lv' := [(2, .int (nI 0)), (0, .ref (hs 0)), (1, .int (zb_e mo))]) hx hb d_M_gather_73 rfl hl (by decide) rfl (fun ls hl => ?_)
                    have key74 : ∀ (n9 : Nat) (n : Nat) (wd2 : Nat → Int32) (ob2 : Nat → Nat) (kd2 : Nat → Nat) (gv2 : Nat) (H : Heap) (locs : List Loc) (ls : Array Slot), 512 - n = n9 → n ≤ 512 → (∀ i, i < 512 → wd2 i = gu_wd wd ob (co_mk rt wd ob ln qt) n i) → (∀ i, i < 512 → ob2 i = gu_ob ob (co_mk rt wd ob ln qt) n i) → (∀ b, b < 16 → kd2 b = gk_kd kd ob (co_mk rt wd ob ln qt) n b) → gv2 + iv_c (gu_ob ob (co_mk rt wd ob ln qt) n) = iv_c ob → lv_has ls 3 [(0, .ref (hs 0)), (2, .int (nI n))] → va_P D cl_all (gw_M ca hs rt wd2 ob2 ln kd2 qt (co_df rt wd ob ln kd qt) (co_mk rt wd ob ln qt) th (cn + 1) gv2) H → va_D (gx_A hs 9) (gw_M ca hs rt wd2 ob2 ln kd2 qt (co_df rt wd ob ln kd qt) (co_mk rt wd ob ln qt) th (cn + 1) gv2) → va_S (gx_A hs 9) s.heap H locs → W p l e (rm_d 4) s m args below meth c H locs 0 0 Q (F0 m 74 ls []) := by
                      intro n9
                      induction n9 using Nat.strongRecOn with
                      | ind n9 ih74 =>
                        intro n wd2 ob2 kd2 gv2 H locs ls hn74 hn hwd2 hob2 hkd2 hgv hl hP hD hS
                        refine lv_iload_n hx hb d_M_gather_74 rfl (lv_at hl 1 rfl) ?_
                        refine lv_sipush (v := nI 512) hx hb d_M_gather_75 (by decide +kernel) ?_
                        refine nx_icmp_ge (tgt := 113) hx hb d_M_gather_78 (by decide) (by omega) (by omega) (fun h78 => ?_) (fun h78 => ?_)
                        · skip
                          have en : n = 512 := by omega
                          subst en
                          have hP := gx_ext hP (q0 := 3) (g := fun j => nI ((co_ob ob (co_mk rt wd ob ln qt)) j)) rfl (fun j hj => by rw [hob2 j hj, gu_eob hov hj])
                          have hD := gx_Dadr hD (w' := gw_M ca hs rt wd2 (co_ob ob (co_mk rt wd ob ln qt)) ln kd2 qt (co_df rt wd ob ln kd qt) (co_mk rt wd ob ln qt) th (cn + 1) gv2) (gw_M_adr.trans gw_M_adr.symm)
                          have hP : va_P D cl_all (gw_M ca hs rt wd2 (co_ob ob (co_mk rt wd ob ln qt)) ln kd2 qt (co_df rt wd ob ln kd qt) (co_mk rt wd ob ln qt) th (cn + 1) gv2) H := hP
                          have hD : va_D (gx_A hs 9) (gw_M ca hs rt wd2 (co_ob ob (co_mk rt wd ob ln qt)) ln kd2 qt (co_df rt wd ob ln kd qt) (co_mk rt wd ob ln qt) th (cn + 1) gv2) := hD
                          have hP := gx_ext hP (q0 := 2) (g := co_wd wd ob (co_mk rt wd ob ln qt)) rfl (fun j hj => by rw [hwd2 j hj, gu_ewd hov hj])
                          have hD := gx_Dadr hD (w' := gw_M ca hs rt (co_wd wd ob (co_mk rt wd ob ln qt)) (co_ob ob (co_mk rt wd ob ln qt)) ln kd2 qt (co_df rt wd ob ln kd qt) (co_mk rt wd ob ln qt) th (cn + 1) gv2) (gw_M_adr.trans gw_M_adr.symm)
                          have hP : va_P D cl_all (gw_M ca hs rt (co_wd wd ob (co_mk rt wd ob ln qt)) (co_ob ob (co_mk rt wd ob ln qt)) ln kd2 qt (co_df rt wd ob ln kd qt) (co_mk rt wd ob ln qt) th (cn + 1) gv2) H := hP
                          have hD : va_D (gx_A hs 9) (gw_M ca hs rt (co_wd wd ob (co_mk rt wd ob ln qt)) (co_ob ob (co_mk rt wd ob ln qt)) ln kd2 qt (co_df rt wd ob ln kd qt) (co_mk rt wd ob ln qt) th (cn + 1) gv2) := hD
                          rw [gu_ce hov] at hgv
                          have egv : gv2 = iv_c ob - iv_c (co_ob ob (co_mk rt wd ob ln qt)) := by omega
                          subst egv
                          have hP : va_P D cl_all (gw_M ca hs rt (co_wd wd ob (co_mk rt wd ob ln qt)) (co_ob ob (co_mk rt wd ob ln qt)) ln kd2 qt (co_df rt wd ob ln kd qt) (co_mk rt wd ob ln qt) th (cn + 1) (iv_c ob - iv_c (co_ob ob (co_mk rt wd ob ln qt)))) H := hP
                          have hD : va_D (gx_A hs 9) (gw_M ca hs rt (co_wd wd ob (co_mk rt wd ob ln qt)) (co_ob ob (co_mk rt wd ob ln qt)) ln kd2 qt (co_df rt wd ob ln kd qt) (co_mk rt wd ob ln qt) th (cn + 1) (iv_c ob - iv_c (co_ob ob (co_mk rt wd ob ln qt)))) := hD
                          have hoc : ∀ i, i < 512 → (co_ob ob (co_mk rt wd ob ln qt)) i < 513 := fun i hi => co_lt hov _ hi
                          refine lv_iconst (v := nI 0) hx hb d_M_gather_113 (by decide +kernel) ?_
                          refine lv_istore_n (lv' := [(2, .int (nI 0)), (0, .ref (hs 0))]) hx hb d_M_gather_114 rfl hl (by decide) rfl (fun ls hl => ?_)
                          have key115 : ∀ (n9 : Nat) (b : Nat) (kd3 : Nat → Nat) (H : Heap) (locs : List Loc) (ls : Array Slot), 16 - b = n9 → b ≤ 16 → (∀ j, j < 16 → kd3 j = if j < b then co_kd kd (co_ob ob (co_mk rt wd ob ln qt)) j else gk_kd kd ob (co_mk rt wd ob ln qt) 512 j) → lv_has ls 3 [(0, .ref (hs 0)), (2, .int (nI b))] → va_P D cl_all (gw_M ca hs rt (co_wd wd ob (co_mk rt wd ob ln qt)) (co_ob ob (co_mk rt wd ob ln qt)) ln kd3 qt (co_df rt wd ob ln kd qt) (co_mk rt wd ob ln qt) th (cn + 1) (iv_c ob - iv_c (co_ob ob (co_mk rt wd ob ln qt)))) H → va_D (gx_A hs 9) (gw_M ca hs rt (co_wd wd ob (co_mk rt wd ob ln qt)) (co_ob ob (co_mk rt wd ob ln qt)) ln kd3 qt (co_df rt wd ob ln kd qt) (co_mk rt wd ob ln qt) th (cn + 1) (iv_c ob - iv_c (co_ob ob (co_mk rt wd ob ln qt)))) → va_S (gx_A hs 9) s.heap H locs → W p l e (rm_d 4) s m args below meth c H locs 0 0 Q (F0 m 115 ls []) := by
                            intro n9
                            induction n9 using Nat.strongRecOn with
                            | ind n9 ih115 =>
                              intro b kd3 H locs ls hn115 hb16 hkd3 hl hP hD hS
                              refine lv_iload_n hx hb d_M_gather_115 rfl (lv_at hl 1 rfl) ?_
                              refine lv_bipush (v := nI 16) hx hb d_M_gather_116 (by decide +kernel) ?_
                              refine nx_icmp_ge (tgt := 162) hx hb d_M_gather_118 (by decide) (by omega) (by omega) (fun h118 => ?_) (fun h118 => ?_)
                              · skip
                                have hP := gx_ext hP (q0 := 7) (g := fun j => nI ((co_kd kd (co_ob ob (co_mk rt wd ob ln qt))) j)) rfl (fun j hj => by rw [hkd3 j hj, if_pos (by omega)])
                                have hD := gx_Dadr hD (w' := gw_M ca hs rt (co_wd wd ob (co_mk rt wd ob ln qt)) (co_ob ob (co_mk rt wd ob ln qt)) ln (co_kd kd (co_ob ob (co_mk rt wd ob ln qt))) qt (co_df rt wd ob ln kd qt) (co_mk rt wd ob ln qt) th (cn + 1) (iv_c ob - iv_c (co_ob ob (co_mk rt wd ob ln qt)))) (gw_M_adr.trans gw_M_adr.symm)
                                have hP : va_P D cl_all (gw_M ca hs rt (co_wd wd ob (co_mk rt wd ob ln qt)) (co_ob ob (co_mk rt wd ob ln qt)) ln (co_kd kd (co_ob ob (co_mk rt wd ob ln qt))) qt (co_df rt wd ob ln kd qt) (co_mk rt wd ob ln qt) th (cn + 1) (iv_c ob - iv_c (co_ob ob (co_mk rt wd ob ln qt)))) H := hP
                                have hD : va_D (gx_A hs 9) (gw_M ca hs rt (co_wd wd ob (co_mk rt wd ob ln qt)) (co_ob ob (co_mk rt wd ob ln qt)) ln (co_kd kd (co_ob ob (co_mk rt wd ob ln qt))) qt (co_df rt wd ob ln kd qt) (co_mk rt wd ob ln qt) th (cn + 1) (iv_c ob - iv_c (co_ob ob (co_mk rt wd ob ln qt)))) := hD
                                refine hret 162 ls _ _ _ d_M_gather_162 hP hS ?_ ?_
                                · exact gw_M_adr.trans gw_M_adr.symm
                                · exact ⟨rfl, rfl⟩
                              · skip
                                have hk3 : kd3 b = gk_kd kd ob (co_mk rt wd ob ln qt) 512 b := by rw [hkd3 b h118, if_neg (by omega)]
                                have hk4 : kd3 b < 34 := by
                                  rw [hk3]
                                  have := hk b h118
                                  unfold gk_kd
                                  split <;> omega
                                refine lv_aload_n hx hb d_M_gather_121 rfl (lv_at hl 0 rfl) ?_
                                refine va_get (D := D) (ci := 1) (v := .ref (hs 7)) (C := R_M) (T := F_M) (N := 11) hx hb ht in_M hown hK hP 0 rfl rfl 7 (by decide) (ht _ wm_353) (fun _ h9 => h9) rfl d_M_gather_122 ?_
                                refine lv_iload_n hx hb d_M_gather_125 rfl (lv_at hl 1 rfl) ?_
                                refine lv_aload_n hx hb d_M_gather_126 rfl (lv_at hl 0 rfl) ?_
                                refine va_get (D := D) (ci := 1) (v := .ref (hs 7)) (C := R_M) (T := F_M) (N := 11) hx hb ht in_M hown hK hP 0 rfl rfl 7 (by decide) (ht _ wm_353) (fun _ h9 => h9) rfl d_M_gather_127 ?_
                                refine lv_iload_n hx hb d_M_gather_130 rfl (lv_at hl 1 rfl) ?_
                                refine nx_iald hx hb hK hP 7 6 nI kd3 rfl rfl b (by omega) (by decide) d_M_gather_131 ?_
                                refine lv_bipush (v := nI 32) hx hb d_M_gather_132 (by decide +kernel) ?_
                                refine nx_icmp_ge (tgt := 149) hx hb d_M_gather_134 (by decide) (by omega) (by omega) (fun h134 => ?_) (fun h134 => ?_)
                                · skip
                                  refine lv_aload_n hx hb d_M_gather_149 rfl (lv_at hl 0 rfl) ?_
                                  refine va_get (D := D) (ci := 1) (v := .ref (hs 7)) (C := R_M) (T := F_M) (N := 11) hx hb ht in_M hown hK hP 0 rfl rfl 7 (by decide) (ht _ wm_353) (fun _ h9 => h9) rfl d_M_gather_150 ?_
                                  refine lv_iload_n hx hb d_M_gather_153 rfl (lv_at hl 1 rfl) ?_
                                  refine nx_iald hx hb hK hP 7 6 nI kd3 rfl rfl b (by omega) (by decide) d_M_gather_154 ?_
                                  refine nx_iast hx hb hK hP hD hS 7 6 nI kd3 rfl rfl b (kd3 b) (by omega) (by decide) d_M_gather_155 (fun H locs hP hD hS => ?_)
                                  have hP : va_P D cl_all (gw_M ca hs rt (co_wd wd ob (co_mk rt wd ob ln qt)) (co_ob ob (co_mk rt wd ob ln qt)) ln (va_up kd3 b (kd3 b)) qt (co_df rt wd ob ln kd qt) (co_mk rt wd ob ln qt) th (cn + 1) (iv_c ob - iv_c (co_ob ob (co_mk rt wd ob ln qt)))) H := hP
                                  have hD : va_D (gx_A hs 9) (gw_M ca hs rt (co_wd wd ob (co_mk rt wd ob ln qt)) (co_ob ob (co_mk rt wd ob ln qt)) ln (va_up kd3 b (kd3 b)) qt (co_df rt wd ob ln kd qt) (co_mk rt wd ob ln qt) th (cn + 1) (iv_c ob - iv_c (co_ob ob (co_mk rt wd ob ln qt)))) := hD
                                  refine lv_iinc (k := 1) (v := nI (b + 1)) (lv' := [(2, .int (nI (b + 1))), (0, .ref (hs 0))]) hx hb d_M_gather_156 hl rfl (nx_inc1 _) (by decide) rfl (fun ls hl => ?_)
                                  refine lv_goto (tgt := 115) hx hb d_M_gather_159 (by decide) ?_
                                  exact ih115 _ (by omega) (b + 1) (va_up kd3 b (kd3 b)) _ _ _ rfl (by omega) (fun j hj => by
                                      by_cases e : j = b
                                      · rw [e, va_up_self, if_pos (by omega)]
                                        exact (by have := gk_e hov hv.2.2.2.1 (mk := co_mk rt wd ob ln qt) h118; rw [← hk3] at this; rw [if_neg (fun q => by omega)] at this; exact this)
                                      · rw [va_up_ne _ _ e, hkd3 j hj]
                                        by_cases q : j < b
                                        · rw [if_pos q, if_pos (by omega)]
                                        · rw [if_neg q, if_neg (by omega)]) (lv_sub hl [1, 0] rfl) hP hD hS
                                · skip
                                  refine lv_aload_n hx hb d_M_gather_137 rfl (lv_at hl 0 rfl) ?_
                                  refine lv_iload_n hx hb d_M_gather_138 rfl (lv_at hl 1 rfl) ?_
                                  refine gx_cV (n := 1) (q0 := 0) (ci := 1) (q := (R_M, F_M, 11)) (C := R_M) (own := R_M) (As := [.int (nI b)]) (rest := [.int (nI b), .ref (hs 7)]) ⟨hx, hb, hml, hown, ht⟩ hg_all (c_M_isBare l D ca hs (rt) (co_wd wd ob (co_mk rt wd ob ln qt)) (co_ob ob (co_mk rt wd ob ln qt)) (ln) (kd3) (qt) (co_df rt wd ob ln kd qt) (co_mk rt wd ob ln qt) (th) (cn + 1) (iv_c ob - iv_c (co_ob ob (co_mk rt wd ob ln qt))) (b) (by omega) (hoc)) wm_421 wm_422 wm_30 wm_36 wm_423 ⟨rfl, by decide, by decide, by decide +kernel⟩ rfl ⟨rfl, rfl⟩ ⟨by decide, by decide⟩ ⟨by decide, by decide⟩ hK hP hD rfl rfl rfl hl.1 rfl (Nat.le_of_ble_eq_true rfl) d_M_gather_139 ?_
                                  refine nx_if_eq_b (tgt := 149) hx hb d_M_gather_142 (by decide) (fun h142 => ?_) (fun h142 => ?_)
                                  · skip
                                    refine lv_aload_n hx hb d_M_gather_149 rfl (lv_at hl 0 rfl) ?_
                                    refine va_get (D := D) (ci := 1) (v := .ref (hs 7)) (C := R_M) (T := F_M) (N := 11) hx hb ht in_M hown hK hP 0 rfl rfl 7 (by decide) (ht _ wm_353) (fun _ h9 => h9) rfl d_M_gather_150 ?_
                                    refine lv_iload_n hx hb d_M_gather_153 rfl (lv_at hl 1 rfl) ?_
                                    refine nx_iald hx hb hK hP 7 6 nI kd3 rfl rfl b (by omega) (by decide) d_M_gather_154 ?_
                                    refine nx_iast hx hb hK hP hD hS 7 6 nI kd3 rfl rfl b (kd3 b) (by omega) (by decide) d_M_gather_155 (fun H locs hP hD hS => ?_)
                                    have hP : va_P D cl_all (gw_M ca hs rt (co_wd wd ob (co_mk rt wd ob ln qt)) (co_ob ob (co_mk rt wd ob ln qt)) ln (va_up kd3 b (kd3 b)) qt (co_df rt wd ob ln kd qt) (co_mk rt wd ob ln qt) th (cn + 1) (iv_c ob - iv_c (co_ob ob (co_mk rt wd ob ln qt)))) H := hP
                                    have hD : va_D (gx_A hs 9) (gw_M ca hs rt (co_wd wd ob (co_mk rt wd ob ln qt)) (co_ob ob (co_mk rt wd ob ln qt)) ln (va_up kd3 b (kd3 b)) qt (co_df rt wd ob ln kd qt) (co_mk rt wd ob ln qt) th (cn + 1) (iv_c ob - iv_c (co_ob ob (co_mk rt wd ob ln qt)))) := hD
                                    refine lv_iinc (k := 1) (v := nI (b + 1)) (lv' := [(2, .int (nI (b + 1))), (0, .ref (hs 0))]) hx hb d_M_gather_156 hl rfl (nx_inc1 _) (by decide) rfl (fun ls hl => ?_)
                                    refine lv_goto (tgt := 115) hx hb d_M_gather_159 (by decide) ?_
                                    exact ih115 _ (by omega) (b + 1) (va_up kd3 b (kd3 b)) _ _ _ rfl (by omega) (fun j hj => by
                                        by_cases e : j = b
                                        · rw [e, va_up_self, if_pos (by omega)]
                                          exact (by have := gk_e hov hv.2.2.2.1 (mk := co_mk rt wd ob ln qt) h118; rw [← hk3] at this; rw [if_neg (fun q => by rw [h142] at q; cases q.2)] at this; exact this)
                                        · rw [va_up_ne _ _ e, hkd3 j hj]
                                          by_cases q : j < b
                                          · rw [if_pos q, if_pos (by omega)]
                                          · rw [if_neg q, if_neg (by omega)]) (lv_sub hl [1, 0] rfl) hP hD hS
                                  · skip
                                    refine lv_iconst (v := nI 0) hx hb d_M_gather_145 (by decide +kernel) ?_
                                    refine lv_goto (tgt := 155) hx hb d_M_gather_146 (by decide) ?_
                                    refine nx_iast hx hb hK hP hD hS 7 6 nI kd3 rfl rfl b 0 (by omega) (by decide) d_M_gather_155 (fun H locs hP hD hS => ?_)
                                    have hP : va_P D cl_all (gw_M ca hs rt (co_wd wd ob (co_mk rt wd ob ln qt)) (co_ob ob (co_mk rt wd ob ln qt)) ln (va_up kd3 b 0) qt (co_df rt wd ob ln kd qt) (co_mk rt wd ob ln qt) th (cn + 1) (iv_c ob - iv_c (co_ob ob (co_mk rt wd ob ln qt)))) H := hP
                                    have hD : va_D (gx_A hs 9) (gw_M ca hs rt (co_wd wd ob (co_mk rt wd ob ln qt)) (co_ob ob (co_mk rt wd ob ln qt)) ln (va_up kd3 b 0) qt (co_df rt wd ob ln kd qt) (co_mk rt wd ob ln qt) th (cn + 1) (iv_c ob - iv_c (co_ob ob (co_mk rt wd ob ln qt)))) := hD
                                    refine lv_iinc (k := 1) (v := nI (b + 1)) (lv' := [(2, .int (nI (b + 1))), (0, .ref (hs 0))]) hx hb d_M_gather_156 hl rfl (nx_inc1 _) (by decide) rfl (fun ls hl => ?_)
                                    refine lv_goto (tgt := 115) hx hb d_M_gather_159 (by decide) ?_
                                    exact ih115 _ (by omega) (b + 1) (va_up kd3 b (0)) _ _ _ rfl (by omega) (fun j hj => by
                                        by_cases e : j = b
                                        · rw [e, va_up_self, if_pos (by omega)]
                                          exact (by have := gk_e hov hv.2.2.2.1 (mk := co_mk rt wd ob ln qt) h118; rw [← hk3] at this; rw [if_pos ⟨h134, h142⟩] at this; exact this)
                                        · rw [va_up_ne _ _ e, hkd3 j hj]
                                          by_cases q : j < b
                                          · rw [if_pos q, if_pos (by omega)]
                                          · rw [if_neg q, if_neg (by omega)]) (lv_sub hl [1, 0] rfl) hP hD hS
                          exact key115 _ (0) (kd2) _ _ _ rfl (Nat.zero_le _) (fun j hj => by rw [if_neg (by omega), hkd2 j hj]) (lv_sub hl [1, 0] rfl) hP hD hS
                        · skip
                          refine lv_aload_n hx hb d_M_gather_81 rfl (lv_at hl 0 rfl) ?_
                          refine va_get (D := D) (ci := 1) (v := .ref (hs 3)) (C := R_M) (T := F_M) (N := 11) hx hb ht in_M hown hK hP 0 rfl rfl 3 (by decide) (ht _ wm_349) (fun _ h9 => h9) rfl d_M_gather_82 ?_
                          refine lv_iload_n hx hb d_M_gather_85 rfl (lv_at hl 1 rfl) ?_
                          refine nx_iald hx hb hK hP 3 2 nI ob2 rfl rfl n (by omega) (by decide) d_M_gather_86 ?_
                          refine lv_iload_n hx hb d_M_gather_87 rfl (lv_at hl 1 rfl) ?_
                          refine lv_iconst (v := nI 1) hx hb d_M_gather_88 (by decide +kernel) ?_
                          refine nx_iadd hx hb d_M_gather_89 ?_
                          refine nx_icmp_ne (tgt := 107) hx hb d_M_gather_90 (by decide) (by have := iv_lt hov h78; rw [hob2 n h78]; unfold gu_ob; split <;> omega) (by omega) (fun h90 => ?_) (fun h90 => ?_)
                          · skip
                            have h90 : ¬ ob n = n + 1 := fun q => h90 (by rw [hob2 n h78]; exact gu_at.mpr q)
                            refine lv_iinc (k := 1) (v := nI (n + 1)) (lv' := [(2, .int (nI (n + 1))), (0, .ref (hs 0))]) hx hb d_M_gather_107 hl rfl (nx_inc1 _) (by decide) rfl (fun ls hl => ?_)
                            refine lv_goto (tgt := 74) hx hb d_M_gather_110 (by decide) ?_
                            exact ih74 _ (by omega) (n + 1) (wd2) (ob2) (kd2) (gv2) _ _ _ rfl (by omega) (fun i hi => by rw [gu_nwd hov (fun q => h90 q.1) hi, hwd2 i hi]) (fun i hi => by rw [gu_nob hov (fun q => h90 q.1) hi, hob2 i hi]) (fun b hb => by rw [gk_n hov (fun q => h90 q.1) hb, hkd2 b hb]) (by rw [gu_cn hov (fun q => h90 q.1)]; exact hgv) (lv_sub hl [1, 0] rfl) hP hD hS
                          · skip
                            have h90 : ob n = n + 1 := gu_at.mp (by rw [← hob2 n h78]; exact h90)
                            refine lv_aload_n hx hb d_M_gather_93 rfl (lv_at hl 0 rfl) ?_
                            refine va_get (D := D) (ci := 1) (v := .ref (hs 6)) (C := R_M) (T := F_M) (N := 11) hx hb ht in_M hown hK hP 0 rfl rfl 6 (by decide) (ht _ wm_352) (fun _ h9 => h9) rfl d_M_gather_94 ?_
                            refine lv_iload_n hx hb d_M_gather_97 rfl (lv_at hl 1 rfl) ?_
                            refine nx_zald hx hb hK hP 6 5 zb_e (co_mk rt wd ob ln qt) rfl rfl n (by omega) (by decide) d_M_gather_98 ?_
                            refine nx_if_ne_b (tgt := 107) hx hb d_M_gather_99 (by decide) (fun h99 => ?_) (fun h99 => ?_)
                            · skip
                              refine lv_iinc (k := 1) (v := nI (n + 1)) (lv' := [(2, .int (nI (n + 1))), (0, .ref (hs 0))]) hx hb d_M_gather_107 hl rfl (nx_inc1 _) (by decide) rfl (fun ls hl => ?_)
                              refine lv_goto (tgt := 74) hx hb d_M_gather_110 (by decide) ?_
                              exact ih74 _ (by omega) (n + 1) (wd2) (ob2) (kd2) (gv2) _ _ _ rfl (by omega) (fun i hi => by rw [gu_nwd hov (fun q => by rw [h99] at q; cases q.2) hi, hwd2 i hi]) (fun i hi => by rw [gu_nob hov (fun q => by rw [h99] at q; cases q.2) hi, hob2 i hi]) (fun b hb => by rw [gk_n hov (fun q => by rw [h99] at q; cases q.2) hb, hkd2 b hb]) (by rw [gu_cn hov (fun q => by rw [h99] at q; cases q.2)]; exact hgv) (lv_sub hl [1, 0] rfl) hP hD hS
                            · skip
                              refine lv_aload_n hx hb d_M_gather_102 rfl (lv_at hl 0 rfl) ?_
                              refine lv_iload_n hx hb d_M_gather_103 rfl (lv_at hl 1 rfl) ?_
                              have hal := (iv_st hov h78 h90).2.2.1
                              have hcy := gu_cy hov h78 h90 h99
                              have hk2 : ∀ b, b < 16 → kd2 b < 34 := fun b hb => by
                                rw [hkd2 b hb]
                                have := hk b hb
                                unfold gk_kd
                                split <;> omega
                              refine gx_cM (n := 1) (q0 := 0) (ci := 1) (q := (R_M, F_M, 11)) (C := R_M) (own := R_M) (As := [.int (nI n)]) (rest := []) ⟨hx, hb, hml, hown, ht⟩ hg_all (c_M_giveUp l D ca hs (rt) (wd2) (ob2) (ln) (kd2) (qt) (co_df rt wd ob ln kd qt) (co_mk rt wd ob ln qt) (th) (cn + 1) (gv2) n h78 hal hk2) wm_418 wm_419 wm_29 wm_36 wm_420 ⟨rfl, by decide, by decide, by decide +kernel⟩ rfl ⟨rfl, rfl⟩ ⟨by decide, by decide⟩ ⟨by decide, by decide⟩ hK hP hD hS (fun _ h => h) rfl rfl rfl hl.1 rfl (Nat.le_of_ble_eq_true rfl) d_M_gather_104 (fun v w' H locs hZ hP hD hS _ _ => ?_)
                              obtain ⟨rfl, rfl⟩ := hZ
                              have hP : va_P D cl_all (gw_M ca hs rt (rz_f wd2 n (n + ln n) 0) (rz_f ob2 n (n + ln n) 0) ln (kz_f kd2 n (ln n)) qt (co_df rt wd ob ln kd qt) (co_mk rt wd ob ln qt) th (cn + 1) (gv2 + 1)) H := hP
                              have hD : va_D (gx_A hs 9) (gw_M ca hs rt (rz_f wd2 n (n + ln n) 0) (rz_f ob2 n (n + ln n) 0) ln (kz_f kd2 n (ln n)) qt (co_df rt wd ob ln kd qt) (co_mk rt wd ob ln qt) th (cn + 1) (gv2 + 1)) := hD
                              refine lv_iinc (k := 1) (v := nI (n + 1)) (lv' := [(2, .int (nI (n + 1))), (0, .ref (hs 0))]) hx hb d_M_gather_107 hl rfl (nx_inc1 _) (by decide) rfl (fun ls hl => ?_)
                              refine lv_goto (tgt := 74) hx hb d_M_gather_110 (by decide) ?_
                              exact ih74 _ (by omega) (n + 1) (rz_f wd2 n (n + ln n) 0) (rz_f ob2 n (n + ln n) 0) (kz_f kd2 n (ln n)) (gv2 + 1) _ _ _ rfl (by omega) (fun i hi => by rw [gu_ywd hov h78 h90 h99 hi, ← hwd2 i hi]; rfl) (fun i hi => by rw [gu_yob hov h78 h90 h99 hi, ← hob2 i hi]; rfl) (fun b hb => by rw [gk_y hov h78 h90 h99 hb, ← hkd2 b hb]; rfl) (by omega) (lv_sub hl [1, 0] rfl) hP hD hS
                    exact key74 _ (0) (wd) (ob) (kd) (0) _ _ _ rfl (Nat.zero_le _) (fun i _ => (gu_w0 wd ob _ i).symm) (fun i _ => (gu_0 ob _ i).symm) (fun b _ => (gk_0 kd ob _ b).symm) (by rw [gu_c0]; omega) (lv_sub hl [1, 0] rfl) hP hD hS
                  · skip
                    refine lv_aload_n hx hb d_M_gather_64 rfl (lv_at hl 0 rfl) ?_
                    refine gx_cM (n := 0) (q0 := 0) (ci := 1) (q := (R_M, F_M, 11)) (C := R_M) (own := R_M) (As := []) (rest := []) ⟨hx, hb, hml, hown, ht⟩ hg_all (c_M_lookAtAll l D ca hs (rt) (wd) (ob) (ln) (kd) (qt) (df2) (mk2) (th) (cn + 1) (0) hov hk P2 hmi2 hsn2) wm_406 wm_407 wm_26 wm_36 wm_408 ⟨rfl, by decide, by decide, by decide +kernel⟩ rfl ⟨rfl, rfl⟩ ⟨by decide, by decide⟩ ⟨by decide, by decide⟩ hK hP hD hS (fun _ h => h) rfl rfl rfl hl.1 rfl (Nat.le_of_ble_eq_true rfl) d_M_gather_65 (fun v w' H locs hZ hP hD hS _ _ => ?_)
                    obtain ⟨mo3, rfl, df3, mk3, P3, rfl, hmi3, hsn3, hg1, hg3, hcm3⟩ := hZ
                    have hP : va_P D cl_all (gw_M ca hs rt wd ob ln kd qt df3 mk3 th (cn + 1) 0) H := hP
                    have hD : va_D (gx_A hs 9) (gw_M ca hs rt wd ob ln kd qt df3 mk3 th (cn + 1) 0) := hD
                    refine lv_istore_n (lv' := [(1, .int (zb_e mo3)), (0, .ref (hs 0))]) hx hb d_M_gather_68 rfl hl (by decide) rfl (fun ls hl => ?_)
                    refine lv_goto (tgt := 60) hx hb d_M_gather_69 (by decide) ?_
                    exact ih60 _ (by rw [← hn60]; exact ms_dec h61 hg3 hg1) (mo3) (df3) (mk3) (P3) _ _ _ rfl (hmi3) (hsn3) (hcm3) (lv_sub hl [1, 0] rfl) hP hD hS
              exact key60 _ (true) ((fun _ : Nat => false)) ((fun _ : Nat => false)) (fun _ => False) _ _ _ rfl (mk_i0 ob kd) (fun _ h => h.elim) (fun q => by cases q) (lv_sub hl [1, 0] rfl) hP hD hS
            · skip
              refine lv_aload_n hx hb d_M_gather_45 rfl (lv_at hl 0 rfl) ?_
              refine va_get (D := D) (ci := 1) (v := .ref (hs 6)) (C := R_M) (T := F_M) (N := 11) hx hb ht in_M hown hK hP 0 rfl rfl 6 (by decide) (ht _ wm_352) (fun _ h9 => h9) rfl d_M_gather_46 ?_
              refine lv_iload_n hx hb d_M_gather_49 rfl (lv_at hl 1 rfl) ?_
              refine lv_iconst (v := zb_e false) hx hb d_M_gather_50 (by decide +kernel) ?_
              refine nx_zast hx hb hK hP hD hS 6 5 mk2 rfl rfl i false (by omega) (by decide) d_M_gather_51 (fun H locs hP hD hS => ?_)
              have hP : va_P D cl_all (gw_M ca hs rt wd ob ln kd qt ((fun _ : Nat => false)) (va_up mk2 i false) th (cn + 1) 0) H := hP
              have hD : va_D (gx_A hs 9) (gw_M ca hs rt wd ob ln kd qt ((fun _ : Nat => false)) (va_up mk2 i false) th (cn + 1) 0) := hD
              refine lv_iinc (k := 1) (v := nI (i + 1)) (lv' := [(1, .int (nI (i + 1))), (0, .ref (hs 0))]) hx hb d_M_gather_52 hl rfl (nx_inc1 _) (by decide) rfl (fun ls hl => ?_)
              refine lv_goto (tgt := 38) hx hb d_M_gather_55 (by decide) ?_
              exact ih38 _ (by omega) (i + 1) (va_up mk2 i false) _ _ _ rfl (by omega) (fun j => by
                  by_cases e : j = i
                  · rw [e, va_up_self, if_pos (by omega)]
                  · rw [va_up_ne _ _ e, hm2 j]
                    by_cases q : j < i
                    · rw [if_pos q, if_pos (by omega)]
                    · rw [if_neg q, if_neg (by omega)]) (lv_sub hl [1, 0] rfl) hP hD hS
        exact key38 _ (0) (mk) _ _ _ rfl (Nat.zero_le _) (fun j => by rw [if_neg (by omega)]) (lv_sub hl [1, 0] rfl) hP hD hS
      · skip
        refine lv_aload_n hx hb d_M_gather_23 rfl (lv_at hl 0 rfl) ?_
        refine va_get (D := D) (ci := 1) (v := .ref (hs 8)) (C := R_M) (T := F_M) (N := 11) hx hb ht in_M hown hK hP 0 rfl rfl 8 (by decide) (ht _ wm_354) (fun _ h9 => h9) rfl d_M_gather_24 ?_
        refine lv_iload_n hx hb d_M_gather_27 rfl (lv_at hl 1 rfl) ?_
        refine lv_iconst (v := zb_e false) hx hb d_M_gather_28 (by decide +kernel) ?_
        refine nx_zast hx hb hK hP hD hS 8 7 df2 rfl rfl i false (by omega) (by decide) d_M_gather_29 (fun H locs hP hD hS => ?_)
        have hP : va_P D cl_all (gw_M ca hs rt wd ob ln kd qt (va_up df2 i false) mk th (cn + 1) 0) H := hP
        have hD : va_D (gx_A hs 9) (gw_M ca hs rt wd ob ln kd qt (va_up df2 i false) mk th (cn + 1) 0) := hD
        refine lv_iinc (k := 1) (v := nI (i + 1)) (lv' := [(1, .int (nI (i + 1))), (0, .ref (hs 0))]) hx hb d_M_gather_30 hl rfl (nx_inc1 _) (by decide) rfl (fun ls hl => ?_)
        refine lv_goto (tgt := 17) hx hb d_M_gather_33 (by decide) ?_
        exact ih17 _ (by omega) (i + 1) (va_up df2 i false) _ _ _ rfl (by omega) (fun j => by
            by_cases e : j = i
            · rw [e, va_up_self, if_pos (by omega)]
            · rw [va_up_ne _ _ e, hd2 j]
              by_cases q : j < i
              · rw [if_pos q, if_pos (by omega)]
              · rw [if_neg q, if_neg (by omega)]) (lv_sub hl [1, 0] rfl) hP hD hS
  exact key17 _ (0) (df) _ _ _ rfl (Nat.zero_le _) (fun j => by rw [if_neg (by omega)]) (lv_sub hl [1, 0] rfl) hP hD hS

