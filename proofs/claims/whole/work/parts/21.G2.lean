/-! the class: what reads, with loops -/
theorem zs_ca (n : Nat) : (n = 0 ∧ zs_e n = -1) ∨ ∃ p, n = p + 1 ∧ zs_e n = nI p := by
  cases n with
  | zero => exact Or.inl ⟨rfl, zs_0⟩
  | succ p => exact Or.inr ⟨p, rfl, zs_s p⟩
def lr_e (r : Nat) : Int32 := if r < 512 then nI r else -1
theorem sl_z {n z : Nat} (hz : z = 2 ∨ z = 4 ∨ z = 8 ∨ z = 16) (h2 : z = 2 ∨ z / 2 < n) (h : n ≤ z ∨ z = 16) : sz_f n = z := by
  unfold sz_f
  rcases hz with e | e | e | e <;> subst e
  · rw [if_pos (by omega)]
  · rw [if_neg (by omega), if_pos (by omega)]
  · rw [if_neg (by omega), if_neg (by omega), if_pos (by omega)]
  · rw [if_neg (by omega), if_neg (by omega), if_neg (by omega)]
theorem us_f1 {kd : Nat → Nat} {df : Nat → Bool} {f : Bool} {b : Nat} (h : kd b ≠ 0) : us_b kd df f b = false := by
  unfold us_b
  rw [decide_eq_false h]
  rfl
theorem us_f2 {kd : Nat → Nat} {df : Nat → Bool} {f : Bool} {b : Nat} (h1 : f = false) (h2 : df b = true) : us_b kd df f b = false := by
  unfold us_b
  rw [h1, h2]
  simp
theorem sb_b1 {b c : Nat} (h : c ≤ b + 1) : nI b - nI c + nI 1 = nI (b + 1 - c) := by
  rw [← pk_sub h, ← nI_add]
  simp only [Int32.sub_eq_add_neg]
  rw [Int32.add_assoc, Int32.add_comm (-nI c), ← Int32.add_assoc]
set_option maxHeartbeats 4000000 in
set_option maxRecDepth 100000 in
theorem c_G_isSplit (l : Launch) (D : va_G) (ca : Nat → ClassId) (hs : Nat → Nat) (rt : Nat → Int32) (wd : Nat → Int32) (ob : Nat → Nat) (ln : Nat → Nat) (kd : Nat → Nat) (qt : Nat → Bool) (df : Nat → Bool) (mk : Nat → Bool) (fd : Nat → Nat) (fc : Nat) (oc : Nat) (cn : Nat) (b : Nat) (hb16 : b < 16) (hk : ∀ b, b < 16 → kd b < 34) : Met l y_G_isSplit (Cond.code y_G_isSplit b_G_isSplit 2 (some .boolean) :: wa_all) (rm_d 0) (va_Pc [.ref (hs 0), .int (nI b)] (gx_I D cl_all (ty_G ca) (gw_G ca hs rt wd ob ln kd qt df mk fd fc oc cn))) (QcRead (zb_e (decide (2 ≤ kd b ∧ kd b ≤ 16)))) 0 0 (fun _ => False) := by
  refine gx_pureZ (by decide) (Nat.le_of_ble_eq_true rfl) ?_
  intro p e s m args below meth c ls Q hx hb hml ht hown hret hP hK hD hl
  have hl : lv_has ls 2 [(0, .ref (hs 0)), (1, .int (nI b))] := hl
  have hown : s.vm.findClass R_G = some m.cls := hown
  have hkb := hk b hb16
  refine lv_aload_n hx hb d_G_isSplit_0 rfl (lv_at hl 0 rfl) ?_
  refine va_get (D := D) (ci := 0) (v := .ref (hs 2)) (C := R_G) (T := F_G) (N := 12) hx hb ht in_G hown hK hP 0 rfl rfl 1 (by decide) (ht _ wm_56) (fun _ h9 => h9) rfl d_G_isSplit_1 ?_
  refine lv_iload_n hx hb d_G_isSplit_4 rfl (lv_at hl 1 rfl) ?_
  refine nx_iald hx hb hK hP 2 1 nI kd rfl rfl b (by omega) (by decide) d_G_isSplit_5 ?_
  refine lv_iconst (v := nI 2) hx hb d_G_isSplit_6 (by decide +kernel) ?_
  refine nx_icmp_lt (tgt := 25) hx hb d_G_isSplit_7 (by decide) (by omega) (by omega) (fun h7 => ?_) (fun h7 => ?_)
  · skip
    refine lv_iconst (v := zb_e false) hx hb d_G_isSplit_25 (by decide +kernel) ?_
    exact hret 26 ls (false) d_G_isSplit_26 (by rw [decide_eq_false (by omega)])
  · skip
    refine lv_aload_n hx hb d_G_isSplit_10 rfl (lv_at hl 0 rfl) ?_
    refine va_get (D := D) (ci := 0) (v := .ref (hs 2)) (C := R_G) (T := F_G) (N := 12) hx hb ht in_G hown hK hP 0 rfl rfl 1 (by decide) (ht _ wm_56) (fun _ h9 => h9) rfl d_G_isSplit_11 ?_
    refine lv_iload_n hx hb d_G_isSplit_14 rfl (lv_at hl 1 rfl) ?_
    refine nx_iald hx hb hK hP 2 1 nI kd rfl rfl b (by omega) (by decide) d_G_isSplit_15 ?_
    refine lv_bipush (v := nI 16) hx hb d_G_isSplit_16 (by decide +kernel) ?_
    refine nx_icmp_gt (tgt := 25) hx hb d_G_isSplit_18 (by decide) (by omega) (by omega) (fun h18 => ?_) (fun h18 => ?_)
    · skip
      refine lv_iconst (v := zb_e false) hx hb d_G_isSplit_25 (by decide +kernel) ?_
      exact hret 26 ls (false) d_G_isSplit_26 (by rw [decide_eq_false (by omega)])
    · skip
      refine lv_iconst (v := zb_e true) hx hb d_G_isSplit_21 (by decide +kernel) ?_
      refine lv_goto (tgt := 26) hx hb d_G_isSplit_22 (by decide) ?_
      exact hret 26 ls (true) d_G_isSplit_26 (by rw [decide_eq_true ⟨h7, h18⟩])

set_option maxHeartbeats 4000000 in
set_option maxRecDepth 100000 in
theorem c_G_wordsInNoObject (l : Launch) (D : va_G) (ca : Nat → ClassId) (hs : Nat → Nat) (rt : Nat → Int32) (wd : Nat → Int32) (ob : Nat → Nat) (ln : Nat → Nat) (kd : Nat → Nat) (qt : Nat → Bool) (df : Nat → Bool) (mk : Nat → Bool) (fd : Nat → Nat) (fc : Nat) (oc : Nat) (cn : Nat) (b : Nat) (hb16 : b < 16) (ho : ∀ i, i < 512 → ob i < 513) : Met l y_G_wordsInNoObject (Cond.code y_G_wordsInNoObject b_G_wordsInNoObject 4 (some .int) :: wa_all) (rm_d 0) (va_Pc [.ref (hs 0), .int (nI b)] (gx_I D cl_all (ty_G ca) (gw_G ca hs rt wd ob ln kd qt df mk fd fc oc cn))) (QcRead (nI (fw_n ob b))) 0 0 (fun _ => False) := by
  refine gx_pureI (by decide) (Nat.le_of_ble_eq_true rfl) ?_
  intro p e s m args below meth c ls Q hx hb hml ht hown hret hP hK hD hl
  have hl : lv_has ls 4 [(0, .ref (hs 0)), (1, .int (nI b))] := hl
  have hown : s.vm.findClass R_G = some m.cls := hown
  refine lv_iconst (v := nI 0) hx hb d_G_wordsInNoObject_0 (by decide +kernel) ?_
  refine lv_istore_n (lv' := [(2, .int (nI 0)), (0, .ref (hs 0)), (1, .int (nI b))]) hx hb d_G_wordsInNoObject_1 rfl hl (by decide) rfl (fun ls hl => ?_)
  refine lv_iconst (v := nI 0) hx hb d_G_wordsInNoObject_2 (by decide +kernel) ?_
  refine lv_istore_n (lv' := [(3, .int (nI 0)), (2, .int (nI 0)), (0, .ref (hs 0)), (1, .int (nI b))]) hx hb d_G_wordsInNoObject_3 rfl hl (by decide) rfl (fun ls hl => ?_)
  have key4 : ∀ (n9 : Nat) (j : Nat) (ct : Nat) (ls : Array Slot), 32 - j = n9 → j ≤ 32 → ct = cn_t (fun j => cl_b (ob (32 * b + j) = 0)) j → lv_has ls 4 [(0, .ref (hs 0)), (1, .int (nI b)), (2, .int (nI ct)), (3, .int (nI j))] → W p l e (rm_d 0) s m args below meth c s.heap [] 0 0 Q (F0 m 4 ls []) := by
    intro n9
    induction n9 using Nat.strongRecOn with
    | ind n9 ih4 =>
      intro j ct ls hn4 hj hct hl
      refine lv_iload_n hx hb d_G_wordsInNoObject_4 rfl (lv_at hl 3 rfl) ?_
      refine lv_bipush (v := nI 32) hx hb d_G_wordsInNoObject_5 (by decide +kernel) ?_
      refine nx_icmp_ge (tgt := 34) hx hb d_G_wordsInNoObject_7 (by decide) (by omega) (by omega) (fun h7 => ?_) (fun h7 => ?_)
      · skip
        refine lv_iload_n hx hb d_G_wordsInNoObject_34 rfl (lv_at hl 2 rfl) ?_
        exact hret 35 ls (nI ct) d_G_wordsInNoObject_35 (by rw [hct, show j = 32 by omega]; rfl)
      · skip
        refine lv_aload_n hx hb d_G_wordsInNoObject_10 rfl (lv_at hl 0 rfl) ?_
        refine va_get (D := D) (ci := 0) (v := .ref (hs 5)) (C := R_G) (T := F_G) (N := 12) hx hb ht in_G hown hK hP 0 rfl rfl 4 (by decide) (ht _ wm_59) (fun _ h9 => h9) rfl d_G_wordsInNoObject_11 ?_
        refine lv_iload_n hx hb d_G_wordsInNoObject_14 rfl (lv_at hl 1 rfl) ?_
        refine lv_bipush (v := nI 32) hx hb d_G_wordsInNoObject_15 (by decide +kernel) ?_
        refine nx_imul hx hb d_G_wordsInNoObject_17 ?_
        refine lv_iload_n hx hb d_G_wordsInNoObject_18 rfl (lv_at hl 3 rfl) ?_
        refine nx_iadd hx hb d_G_wordsInNoObject_19 ?_
        refine nx_iald hx hb hK hP 5 4 zs_e ob rfl rfl ((b * 32) + j) (by omega) (by decide) d_G_wordsInNoObject_20 ?_
        rcases zs_ca (ob ((b * 32) + j)) with ⟨hc, e9⟩ | ⟨p, hc, e9⟩
        · skip
          refine nx_top e9 ?_
          refine lv_iconst (v := -1) hx hb d_G_wordsInNoObject_21 (by decide +kernel) ?_
          refine lv_icmp_ne (tgt := 28) hx hb d_G_wordsInNoObject_22 (by decide) (fun h => absurd rfl h) (fun _ => ?_)
          refine lv_iinc (k := 2) (v := nI (ct + 1)) (lv' := [(2, .int (nI (ct + 1))), (0, .ref (hs 0)), (1, .int (nI b)), (3, .int (nI j))]) hx hb d_G_wordsInNoObject_25 hl rfl (nx_inc1 _) (by decide) rfl (fun ls hl => ?_)
          refine lv_iinc (k := 3) (v := nI (j + 1)) (lv' := [(3, .int (nI (j + 1))), (2, .int (nI (ct + 1))), (0, .ref (hs 0)), (1, .int (nI b))]) hx hb d_G_wordsInNoObject_28 hl rfl (nx_inc1 _) (by decide) rfl (fun ls hl => ?_)
          refine lv_goto (tgt := 4) hx hb d_G_wordsInNoObject_31 (by decide) ?_
          exact ih4 _ (by omega) (j + 1) (ct + 1) _ rfl (by omega) (by simp only [cn_t]; rw [if_pos (cl_t.mpr (show ob (32 * b + j) = 0 by rw [Nat.mul_comm 32 b]; exact hc)), ← hct]) (lv_sub hl [2, 3, 1, 0] rfl)
        · skip
          have hp := ho (b * 32 + j) (by omega)
          rw [hc] at hp
          refine nx_top e9 ?_
          refine lv_iconst (v := -1) hx hb d_G_wordsInNoObject_21 (by decide +kernel) ?_
          refine lv_icmp_ne (tgt := 28) hx hb d_G_wordsInNoObject_22 (by decide) (fun _ => ?_) (fun h => absurd h (zn_m1 (by omega)))
          refine lv_iinc (k := 3) (v := nI (j + 1)) (lv' := [(3, .int (nI (j + 1))), (0, .ref (hs 0)), (1, .int (nI b)), (2, .int (nI ct))]) hx hb d_G_wordsInNoObject_28 hl rfl (nx_inc1 _) (by decide) rfl (fun ls hl => ?_)
          refine lv_goto (tgt := 4) hx hb d_G_wordsInNoObject_31 (by decide) ?_
          exact ih4 _ (by omega) (j + 1) (ct) _ rfl (by omega) (by simp only [cn_t]; rw [if_neg (fun q => by have := cl_t.mp q; rw [Nat.mul_comm 32 b, hc] at this; omega), ← hct]; rfl) (lv_sub hl [1, 2, 3, 0] rfl)
  exact key4 _ (0) (0) _ rfl (Nat.zero_le _) (rfl) (lv_sub hl [2, 3, 1, 0] rfl)

set_option maxHeartbeats 4000000 in
set_option maxRecDepth 100000 in
theorem c_G_slotSize (l : Launch) (n : Nat) (hn : n ≤ 128) : Met l y_G_slotSize (Cond.code y_G_slotSize b_G_slotSize 2 (some .int) :: wa_all) (rm_d 0) (fun v _ => v = ([.int (nI n)] : List Value).toArray) (QcRead (nI (sz_f n))) 0 0 (fun _ => False) := by
  refine gx_statI (by decide) (Nat.le_of_ble_eq_true rfl) ?_
  intro p e s m args below meth c ls Q hx hb hml ht hown hret hl
  have hl : lv_has ls 2 [(0, .int (nI n))] := hl
  have hown : s.vm.findClass R_G = some m.cls := hown
  refine lv_iconst (v := nI 2) hx hb d_G_slotSize_0 (by decide +kernel) ?_
  refine lv_istore_n (lv' := [(1, .int (nI 2)), (0, .int (nI n))]) hx hb d_G_slotSize_1 rfl hl (by decide) rfl (fun ls hl => ?_)
  have key2 : ∀ (n9 : Nat) (z : Nat) (ls : Array Slot), 16 - z = n9 → (z = 2 ∨ z = 4 ∨ z = 8 ∨ z = 16) → (z = 2 ∨ z / 2 < n) → lv_has ls 2 [(0, .int (nI n)), (1, .int (nI z))] → W p l e (rm_d 0) s m args below meth c s.heap [] 0 0 Q (F0 m 2 ls []) := by
    intro n9
    induction n9 using Nat.strongRecOn with
    | ind n9 ih2 =>
      intro z ls hn2 hz hz2 hl
      refine lv_iload_n hx hb d_G_slotSize_2 rfl (lv_at hl 1 rfl) ?_
      refine lv_bipush (v := nI 16) hx hb d_G_slotSize_3 (by decide +kernel) ?_
      refine nx_icmp_ge (tgt := 22) hx hb d_G_slotSize_5 (by decide) (by omega) (by omega) (fun h5 => ?_) (fun h5 => ?_)
      · skip
        refine lv_bipush (v := nI 16) hx hb d_G_slotSize_22 (by decide +kernel) ?_
        exact hret 24 ls (nI 16) d_G_slotSize_24 (by rw [sl_z hz hz2 (Or.inr (by omega)), show z = 16 by omega])
      · skip
        refine lv_iload_n hx hb d_G_slotSize_8 rfl (lv_at hl 1 rfl) ?_
        refine lv_iload_n hx hb d_G_slotSize_9 rfl (lv_at hl 0 rfl) ?_
        refine nx_icmp_lt (tgt := 15) hx hb d_G_slotSize_10 (by decide) (by omega) (by omega) (fun h10 => ?_) (fun h10 => ?_)
        · skip
          refine lv_iload_n hx hb d_G_slotSize_15 rfl (lv_at hl 1 rfl) ?_
          refine lv_iconst (v := nI 2) hx hb d_G_slotSize_16 (by decide +kernel) ?_
          refine nx_imul hx hb d_G_slotSize_17 ?_
          refine lv_istore_n (lv' := [(1, .int (nI (z * 2))), (0, .int (nI n))]) hx hb d_G_slotSize_18 rfl hl (by decide) rfl (fun ls hl => ?_)
          refine lv_goto (tgt := 2) hx hb d_G_slotSize_19 (by decide) ?_
          exact ih2 _ (by omega) (z * 2) _ rfl (by omega) (by omega) (lv_sub hl [1, 0] rfl)
        · skip
          refine lv_iload_n hx hb d_G_slotSize_13 rfl (lv_at hl 1 rfl) ?_
          exact hret 14 ls (nI z) d_G_slotSize_14 (by rw [sl_z hz hz2 (Or.inl (by omega))])
  exact key2 _ (2) _ rfl (Or.inl rfl) (Or.inl rfl) (lv_sub hl [1, 0] rfl)

set_option maxHeartbeats 4000000 in
set_option maxRecDepth 100000 in
theorem c_G_blocksFor (l : Launch) (n : Nat) (hn : n ≤ 128) : Met l y_G_blocksFor (Cond.code y_G_blocksFor b_G_blocksFor 1 (some .int) :: wa_all) (rm_d 0) (fun v _ => v = ([.int (nI n)] : List Value).toArray) (QcRead (nI (bk_f n))) 0 0 (fun _ => False) := by
  refine gx_statI (by decide) (Nat.le_of_ble_eq_true rfl) ?_
  intro p e s m args below meth c ls Q hx hb hml ht hown hret hl
  have hl : lv_has ls 1 [(0, .int (nI n))] := hl
  have hown : s.vm.findClass R_G = some m.cls := hown
  refine lv_iload_n hx hb d_G_blocksFor_0 rfl (lv_at hl 0 rfl) ?_
  refine lv_bipush (v := nI 32) hx hb d_G_blocksFor_1 (by decide +kernel) ?_
  refine nx_iadd hx hb d_G_blocksFor_3 ?_
  refine lv_iconst (v := nI 1) hx hb d_G_blocksFor_4 (by decide +kernel) ?_
  refine nx_isub hx hb d_G_blocksFor_5 (by omega) ?_
  refine lv_bipush (v := nI 32) hx hb d_G_blocksFor_6 (by decide +kernel) ?_
  refine nx_idiv hx hb d_G_blocksFor_8 (by omega) (by omega) (by omega) ?_
  exact hret 9 ls (nI (((n + 32) - 1) / 32)) d_G_blocksFor_9 (by rw [show bk_f n = (n + 32 - 1) / 32 by unfold bk_f; rw [show n + 32 - 1 = n + 31 by omega]])

set_option maxHeartbeats 4000000 in
set_option maxRecDepth 100000 in
theorem c_G_findEmptySlot (l : Launch) (D : va_G) (ca : Nat → ClassId) (hs : Nat → Nat) (rt : Nat → Int32) (wd : Nat → Int32) (ob : Nat → Nat) (ln : Nat → Nat) (kd : Nat → Nat) (qt : Nat → Bool) (df : Nat → Bool) (mk : Nat → Bool) (fd : Nat → Nat) (fc : Nat) (oc : Nat) (cn : Nat) (z : Nat) (hz : z ≤ 16) (hk : ∀ b, b < 16 → kd b < 34) (ho : ∀ i, i < 512 → ob i < 513) : Met l y_G_findEmptySlot (Cond.code y_G_findEmptySlot b_G_findEmptySlot 3 (some .int) :: wa_all) (rm_d 0) (va_Pc [.ref (hs 0), .int (nI z)] (gx_I D cl_all (ty_G ca) (gw_G ca hs rt wd ob ln kd qt df mk fd fc oc cn))) (QcRead (lr_e (rm_s ob kd z))) 0 0 (fun _ => False) := by
  refine gx_pureI (by decide) (Nat.le_of_ble_eq_true rfl) ?_
  intro p e s m args below meth c ls Q hx hb hml ht hown hret hP hK hD hl
  have hl : lv_has ls 3 [(0, .ref (hs 0)), (1, .int (nI z))] := hl
  have hown : s.vm.findClass R_G = some m.cls := hown
  refine lv_iconst (v := nI 0) hx hb d_G_findEmptySlot_0 (by decide +kernel) ?_
  refine lv_istore_n (lv' := [(2, .int (nI 0)), (0, .ref (hs 0)), (1, .int (nI z))]) hx hb d_G_findEmptySlot_1 rfl hl (by decide) rfl (fun ls hl => ?_)
  have key2 : ∀ (n9 : Nat) (i : Nat) (ls : Array Slot), 512 - i = n9 → i ≤ 512 → (∀ j, j < i → ¬ (kd (j / 32) = z ∧ ob j = 0)) → lv_has ls 3 [(0, .ref (hs 0)), (1, .int (nI z)), (2, .int (nI i))] → W p l e (rm_d 0) s m args below meth c s.heap [] 0 0 Q (F0 m 2 ls []) := by
    intro n9
    induction n9 using Nat.strongRecOn with
    | ind n9 ih2 =>
      intro i ls hn2 hi hm hl
      refine lv_iload_n hx hb d_G_findEmptySlot_2 rfl (lv_at hl 2 rfl) ?_
      refine lv_sipush (v := nI 512) hx hb d_G_findEmptySlot_3 (by decide +kernel) ?_
      refine nx_icmp_ge (tgt := 40) hx hb d_G_findEmptySlot_6 (by decide) (by omega) (by omega) (fun h6 => ?_) (fun h6 => ?_)
      · skip
        refine lv_iconst (v := -1) hx hb d_G_findEmptySlot_40 (by decide +kernel) ?_
        exact hret 41 ls (-1) d_G_findEmptySlot_41 (by rw [show rm_s ob kd z = 512 from le_no (P := fun i => cl_b (kd (i / 32) = z ∧ ob i = 0)) (fun j hj => cl_f.mpr (hm j (by omega)))]; exact (if_neg (by decide)).symm)
      · skip
        refine lv_aload_n hx hb d_G_findEmptySlot_9 rfl (lv_at hl 0 rfl) ?_
        refine va_get (D := D) (ci := 0) (v := .ref (hs 2)) (C := R_G) (T := F_G) (N := 12) hx hb ht in_G hown hK hP 0 rfl rfl 1 (by decide) (ht _ wm_56) (fun _ h9 => h9) rfl d_G_findEmptySlot_10 ?_
        refine lv_iload_n hx hb d_G_findEmptySlot_13 rfl (lv_at hl 2 rfl) ?_
        refine lv_bipush (v := nI 32) hx hb d_G_findEmptySlot_14 (by decide +kernel) ?_
        refine nx_idiv hx hb d_G_findEmptySlot_16 (by omega) (by omega) (by omega) ?_
        refine nx_iald hx hb hK hP 2 1 nI kd rfl rfl (i / 32) (by omega) (by decide) d_G_findEmptySlot_17 ?_
        refine lv_iload_n hx hb d_G_findEmptySlot_18 rfl (lv_at hl 1 rfl) ?_
        refine nx_icmp_ne (tgt := 34) hx hb d_G_findEmptySlot_19 (by decide) (by have := hk (i / 32) (by omega); omega) (by omega) (fun h19 => ?_) (fun h19 => ?_)
        · skip
          refine lv_iinc (k := 2) (v := nI (i + 1)) (lv' := [(2, .int (nI (i + 1))), (0, .ref (hs 0)), (1, .int (nI z))]) hx hb d_G_findEmptySlot_34 hl rfl (nx_inc1 _) (by decide) rfl (fun ls hl => ?_)
          refine lv_goto (tgt := 2) hx hb d_G_findEmptySlot_37 (by decide) ?_
          exact ih2 _ (by omega) (i + 1) _ rfl (by omega) (lt_s hm (fun q => h19 q.1)) (lv_sub hl [1, 2, 0] rfl)
        · skip
          refine lv_aload_n hx hb d_G_findEmptySlot_22 rfl (lv_at hl 0 rfl) ?_
          refine va_get (D := D) (ci := 0) (v := .ref (hs 5)) (C := R_G) (T := F_G) (N := 12) hx hb ht in_G hown hK hP 0 rfl rfl 4 (by decide) (ht _ wm_59) (fun _ h9 => h9) rfl d_G_findEmptySlot_23 ?_
          refine lv_iload_n hx hb d_G_findEmptySlot_26 rfl (lv_at hl 2 rfl) ?_
          refine nx_iald hx hb hK hP 5 4 zs_e ob rfl rfl i (by omega) (by decide) d_G_findEmptySlot_27 ?_
          rcases zs_ca (ob i) with ⟨hc, e9⟩ | ⟨p, hc, e9⟩
          · skip
            refine nx_top e9 ?_
            refine lv_iconst (v := -1) hx hb d_G_findEmptySlot_28 (by decide +kernel) ?_
            refine lv_icmp_ne (tgt := 34) hx hb d_G_findEmptySlot_29 (by decide) (fun h => absurd rfl h) (fun _ => ?_)
            refine lv_iload_n hx hb d_G_findEmptySlot_32 rfl (lv_at hl 2 rfl) ?_
            exact hret 33 ls (nI i) d_G_findEmptySlot_33 (by rw [show rm_s ob kd z = i from le_eq (P := fun i => cl_b (kd (i / 32) = z ∧ ob i = 0)) h6 (cl_t.mpr ⟨h19, hc⟩) (fun j hj => cl_f.mpr (hm j hj))]; exact (if_pos h6).symm)
          · skip
            have hp := ho i (by omega)
            rw [hc] at hp
            refine nx_top e9 ?_
            refine lv_iconst (v := -1) hx hb d_G_findEmptySlot_28 (by decide +kernel) ?_
            refine lv_icmp_ne (tgt := 34) hx hb d_G_findEmptySlot_29 (by decide) (fun _ => ?_) (fun h => absurd h (zn_m1 (by omega)))
            refine lv_iinc (k := 2) (v := nI (i + 1)) (lv' := [(2, .int (nI (i + 1))), (0, .ref (hs 0)), (1, .int (nI z))]) hx hb d_G_findEmptySlot_34 hl rfl (nx_inc1 _) (by decide) rfl (fun ls hl => ?_)
            refine lv_goto (tgt := 2) hx hb d_G_findEmptySlot_37 (by decide) ?_
            exact ih2 _ (by omega) (i + 1) _ rfl (by omega) (lt_s hm (fun q => by have := q.2; omega)) (lv_sub hl [1, 2, 0] rfl)
  exact key2 _ (0) _ rfl (Nat.zero_le _) (lt_0) (lv_sub hl [1, 2, 0] rfl)

set_option maxHeartbeats 4000000 in
set_option maxRecDepth 100000 in
theorem c_G_findBlocks (l : Launch) (D : va_G) (ca : Nat → ClassId) (hs : Nat → Nat) (rt : Nat → Int32) (wd : Nat → Int32) (ob : Nat → Nat) (ln : Nat → Nat) (kd : Nat → Nat) (qt : Nat → Bool) (df : Nat → Bool) (mk : Nat → Bool) (fd : Nat → Nat) (fc : Nat) (oc : Nat) (cn : Nat) (k : Nat) (hk1 : 1 ≤ k) (hk2 : k ≤ 16) (f : Bool) (hk : ∀ b, b < 16 → kd b < 34) : Met l y_G_findBlocks (Cond.code y_G_findBlocks b_G_findBlocks 6 (some .int) :: wa_all) (rm_d 0) (va_Pc [.ref (hs 0), .int (nI k), .int (zb_e f)] (gx_I D cl_all (ty_G ca) (gw_G ca hs rt wd ob ln kd qt df mk fd fc oc cn))) (QcRead (lr_e (32 * rm_b kd df f k))) 0 0 (fun _ => False) := by
  refine gx_pureI (by decide) (Nat.le_of_ble_eq_true rfl) ?_
  intro p e s m args below meth c ls Q hx hb hml ht hown hret hP hK hD hl
  have hl : lv_has ls 6 [(0, .ref (hs 0)), (1, .int (nI k)), (2, .int (zb_e f))] := hl
  have hown : s.vm.findClass R_G = some m.cls := hown
  refine lv_iconst (v := nI 0) hx hb d_G_findBlocks_0 (by decide +kernel) ?_
  refine lv_istore_n (lv' := [(3, .int (nI 0)), (0, .ref (hs 0)), (1, .int (nI k)), (2, .int (zb_e f))]) hx hb d_G_findBlocks_1 rfl hl (by decide) rfl (fun ls hl => ?_)
  refine lv_iconst (v := nI 0) hx hb d_G_findBlocks_2 (by decide +kernel) ?_
  refine lv_istore (lv' := [(4, .int (nI 0)), (3, .int (nI 0)), (0, .ref (hs 0)), (1, .int (nI k)), (2, .int (zb_e f))]) hx hb d_G_findBlocks_3 hl (by decide) rfl (fun ls hl => ?_)
  have key5 : ∀ (n9 : Nat) (b : Nat) (r : Nat) (ls : Array Slot), 16 - b = n9 → b ≤ 16 → fb_I kd df f k b r → lv_has ls 6 [(0, .ref (hs 0)), (1, .int (nI k)), (2, .int (zb_e f)), (3, .int (nI r)), (4, .int (nI b))] → W p l e (rm_d 0) s m args below meth c s.heap [] 0 0 Q (F0 m 5 ls []) := by
    intro n9
    induction n9 using Nat.strongRecOn with
    | ind n9 ih5 =>
      intro b r ls hn5 hb16 hI hl
      have hr1 := hI.1
      have hr2 := hI.2.1
      refine lv_iload hx hb d_G_findBlocks_5 (lv_at hl 4 rfl) ?_
      refine lv_bipush (v := nI 16) hx hb d_G_findBlocks_7 (by decide +kernel) ?_
      refine nx_icmp_ge (tgt := 77) hx hb d_G_findBlocks_9 (by decide) (by omega) (by omega) (fun h9 => ?_) (fun h9 => ?_)
      · skip
        refine lv_iconst (v := -1) hx hb d_G_findBlocks_77 (by decide +kernel) ?_
        exact hret 78 ls (-1) d_G_findBlocks_78 (by rw [fb_end (show fb_I kd df f k 16 r by rw [show 16 = b by omega]; exact hI)]; rfl)
      · skip
        refine lv_aload_n hx hb d_G_findBlocks_12 rfl (lv_at hl 0 rfl) ?_
        refine va_get (D := D) (ci := 0) (v := .ref (hs 2)) (C := R_G) (T := F_G) (N := 12) hx hb ht in_G hown hK hP 0 rfl rfl 1 (by decide) (ht _ wm_56) (fun _ h9 => h9) rfl d_G_findBlocks_13 ?_
        refine lv_iload hx hb d_G_findBlocks_16 (lv_at hl 4 rfl) ?_
        refine nx_iald hx hb hK hP 2 1 nI kd rfl rfl b (by omega) (by decide) d_G_findBlocks_18 ?_
        refine nx_if_ne (tgt := 40) hx hb d_G_findBlocks_19 (by decide) (by have := hk b h9; omega) (fun h19 => ?_) (fun h19 => ?_)
        · skip
          have hu : us_b kd df f b = false := us_f1 h19
          refine lv_iconst (v := zb_e false) hx hb d_G_findBlocks_40 (by decide +kernel) ?_
          refine lv_istore (lv' := [(5, .int (zb_e false)), (0, .ref (hs 0)), (1, .int (nI k)), (2, .int (zb_e f)), (3, .int (nI r)), (4, .int (nI b))]) hx hb d_G_findBlocks_41 hl (by decide) rfl (fun ls hl => ?_)
          refine lv_iload hx hb d_G_findBlocks_43 (lv_at hl 0 rfl) ?_
          refine nx_if_eq_b (tgt := 54) hx hb d_G_findBlocks_45 (by decide) (fun _ => ?_) (fun h => absurd h (by decide))
          refine lv_iconst (v := nI 0) hx hb d_G_findBlocks_54 (by decide +kernel) ?_
          refine lv_istore_n (lv' := [(3, .int (nI 0)), (5, .int (zb_e false)), (0, .ref (hs 0)), (1, .int (nI k)), (2, .int (zb_e f)), (4, .int (nI b))]) hx hb d_G_findBlocks_55 rfl hl (by decide) rfl (fun ls hl => ?_)
          refine lv_iload_n hx hb d_G_findBlocks_56 rfl (lv_at hl 0 rfl) ?_
          refine lv_iload_n hx hb d_G_findBlocks_57 rfl (lv_at hl 3 rfl) ?_
          refine nx_icmp_ne (tgt := 71) hx hb d_G_findBlocks_58 (by decide) (by omega) (by omega) (fun h58 => ?_) (fun h58 => ?_)
          · skip
            refine lv_iinc (k := 5) (v := nI (b + 1)) (lv' := [(4, .int (nI (b + 1))), (3, .int (nI 0)), (5, .int (zb_e false)), (0, .ref (hs 0)), (1, .int (nI k)), (2, .int (zb_e f))]) hx hb d_G_findBlocks_71 hl rfl (nx_inc1 _) (by decide) rfl (fun ls hl => ?_)
            refine lv_goto (tgt := 5) hx hb d_G_findBlocks_74 (by decide) ?_
            exact ih5 _ (by omega) (b + 1) (0) _ rfl (by omega) (fb_no hI hu) (lv_sub hl [3, 4, 5, 1, 0] rfl)
          · skip
            omega
        · skip
          refine lv_iload_n hx hb d_G_findBlocks_22 rfl (lv_at hl 2 rfl) ?_
          refine nx_if_ne_b (tgt := 36) hx hb d_G_findBlocks_23 (by decide) (fun h23 => ?_) (fun h23 => ?_)
          · skip
            have hu : us_b kd df f b = true := us_t.mpr ⟨h19, Or.inl h23⟩
            refine lv_iconst (v := zb_e true) hx hb d_G_findBlocks_36 (by decide +kernel) ?_
            refine lv_goto (tgt := 41) hx hb d_G_findBlocks_37 (by decide) ?_
            refine lv_istore (lv' := [(5, .int (zb_e true)), (0, .ref (hs 0)), (1, .int (nI k)), (2, .int (zb_e f)), (3, .int (nI r)), (4, .int (nI b))]) hx hb d_G_findBlocks_41 hl (by decide) rfl (fun ls hl => ?_)
            refine lv_iload hx hb d_G_findBlocks_43 (lv_at hl 0 rfl) ?_
            refine nx_if_eq_b (tgt := 54) hx hb d_G_findBlocks_45 (by decide) (fun h => absurd h (by decide)) (fun _ => ?_)
            refine lv_iload_n hx hb d_G_findBlocks_48 rfl (lv_at hl 4 rfl) ?_
            refine lv_iconst (v := nI 1) hx hb d_G_findBlocks_49 (by decide +kernel) ?_
            refine nx_iadd hx hb d_G_findBlocks_50 ?_
            refine lv_goto (tgt := 55) hx hb d_G_findBlocks_51 (by decide) ?_
            refine lv_istore_n (lv' := [(3, .int (nI (r + 1))), (5, .int (zb_e true)), (0, .ref (hs 0)), (1, .int (nI k)), (2, .int (zb_e f)), (4, .int (nI b))]) hx hb d_G_findBlocks_55 rfl hl (by decide) rfl (fun ls hl => ?_)
            refine lv_iload_n hx hb d_G_findBlocks_56 rfl (lv_at hl 0 rfl) ?_
            refine lv_iload_n hx hb d_G_findBlocks_57 rfl (lv_at hl 3 rfl) ?_
            refine nx_icmp_ne (tgt := 71) hx hb d_G_findBlocks_58 (by decide) (by omega) (by omega) (fun h58 => ?_) (fun h58 => ?_)
            · skip
              refine lv_iinc (k := 5) (v := nI (b + 1)) (lv' := [(4, .int (nI (b + 1))), (3, .int (nI (r + 1))), (5, .int (zb_e true)), (0, .ref (hs 0)), (1, .int (nI k)), (2, .int (zb_e f))]) hx hb d_G_findBlocks_71 hl rfl (nx_inc1 _) (by decide) rfl (fun ls hl => ?_)
              refine lv_goto (tgt := 5) hx hb d_G_findBlocks_74 (by decide) ?_
              exact ih5 _ (by omega) (b + 1) (r + 1) _ rfl (by omega) (fb_yes hI hu (by have := hI.1; omega)) (lv_sub hl [3, 4, 5, 1, 0] rfl)
            · skip
              refine lv_iload hx hb d_G_findBlocks_61 (lv_at hl 5 rfl) ?_
              refine lv_iload_n hx hb d_G_findBlocks_63 rfl (lv_at hl 3 rfl) ?_
              refine lv_isub hx hb d_G_findBlocks_64 ?_
              refine lv_iconst (v := nI 1) hx hb d_G_findBlocks_65 (by decide +kernel) ?_
              refine lv_iadd hx hb d_G_findBlocks_66 ?_
              refine nx_top (sb_b1 (by omega)) ?_
              refine lv_bipush (v := nI 32) hx hb d_G_findBlocks_67 (by decide +kernel) ?_
              refine nx_imul hx hb d_G_findBlocks_69 ?_
              exact hret 70 ls (nI ((b + 1 - k) * 32)) d_G_findBlocks_70 (by rw [fb_hit hI hu h58 h9, Nat.mul_comm]; exact (if_pos (show 32 * (b + 1 - k) < 512 by omega)).symm)
          · skip
            refine lv_aload_n hx hb d_G_findBlocks_26 rfl (lv_at hl 0 rfl) ?_
            refine va_get (D := D) (ci := 0) (v := .ref (hs 3)) (C := R_G) (T := F_G) (N := 12) hx hb ht in_G hown hK hP 0 rfl rfl 2 (by decide) (ht _ wm_57) (fun _ h9 => h9) rfl d_G_findBlocks_27 ?_
            refine lv_iload hx hb d_G_findBlocks_30 (lv_at hl 4 rfl) ?_
            refine nx_zald hx hb hK hP 3 2 zb_e df rfl rfl b (by omega) (by decide) d_G_findBlocks_32 ?_
            refine nx_if_ne_b (tgt := 40) hx hb d_G_findBlocks_33 (by decide) (fun h33 => ?_) (fun h33 => ?_)
            · skip
              have hu : us_b kd df f b = false := us_f2 h23 h33
              refine lv_iconst (v := zb_e false) hx hb d_G_findBlocks_40 (by decide +kernel) ?_
              refine lv_istore (lv' := [(5, .int (zb_e false)), (0, .ref (hs 0)), (1, .int (nI k)), (2, .int (zb_e f)), (3, .int (nI r)), (4, .int (nI b))]) hx hb d_G_findBlocks_41 hl (by decide) rfl (fun ls hl => ?_)
              refine lv_iload hx hb d_G_findBlocks_43 (lv_at hl 0 rfl) ?_
              refine nx_if_eq_b (tgt := 54) hx hb d_G_findBlocks_45 (by decide) (fun _ => ?_) (fun h => absurd h (by decide))
              refine lv_iconst (v := nI 0) hx hb d_G_findBlocks_54 (by decide +kernel) ?_
              refine lv_istore_n (lv' := [(3, .int (nI 0)), (5, .int (zb_e false)), (0, .ref (hs 0)), (1, .int (nI k)), (2, .int (zb_e f)), (4, .int (nI b))]) hx hb d_G_findBlocks_55 rfl hl (by decide) rfl (fun ls hl => ?_)
              refine lv_iload_n hx hb d_G_findBlocks_56 rfl (lv_at hl 0 rfl) ?_
              refine lv_iload_n hx hb d_G_findBlocks_57 rfl (lv_at hl 3 rfl) ?_
              refine nx_icmp_ne (tgt := 71) hx hb d_G_findBlocks_58 (by decide) (by omega) (by omega) (fun h58 => ?_) (fun h58 => ?_)
              · skip
                refine lv_iinc (k := 5) (v := nI (b + 1)) (lv' := [(4, .int (nI (b + 1))), (3, .int (nI 0)), (5, .int (zb_e false)), (0, .ref (hs 0)), (1, .int (nI k)), (2, .int (zb_e f))]) hx hb d_G_findBlocks_71 hl rfl (nx_inc1 _) (by decide) rfl (fun ls hl => ?_)
                refine lv_goto (tgt := 5) hx hb d_G_findBlocks_74 (by decide) ?_
                exact ih5 _ (by omega) (b + 1) (0) _ rfl (by omega) (fb_no hI hu) (lv_sub hl [3, 4, 5, 1, 0] rfl)
              · skip
                omega
            · skip
              have hu : us_b kd df f b = true := us_t.mpr ⟨h19, Or.inr h33⟩
              refine lv_iconst (v := zb_e true) hx hb d_G_findBlocks_36 (by decide +kernel) ?_
              refine lv_goto (tgt := 41) hx hb d_G_findBlocks_37 (by decide) ?_
              refine lv_istore (lv' := [(5, .int (zb_e true)), (0, .ref (hs 0)), (1, .int (nI k)), (2, .int (zb_e f)), (3, .int (nI r)), (4, .int (nI b))]) hx hb d_G_findBlocks_41 hl (by decide) rfl (fun ls hl => ?_)
              refine lv_iload hx hb d_G_findBlocks_43 (lv_at hl 0 rfl) ?_
              refine nx_if_eq_b (tgt := 54) hx hb d_G_findBlocks_45 (by decide) (fun h => absurd h (by decide)) (fun _ => ?_)
              refine lv_iload_n hx hb d_G_findBlocks_48 rfl (lv_at hl 4 rfl) ?_
              refine lv_iconst (v := nI 1) hx hb d_G_findBlocks_49 (by decide +kernel) ?_
              refine nx_iadd hx hb d_G_findBlocks_50 ?_
              refine lv_goto (tgt := 55) hx hb d_G_findBlocks_51 (by decide) ?_
              refine lv_istore_n (lv' := [(3, .int (nI (r + 1))), (5, .int (zb_e true)), (0, .ref (hs 0)), (1, .int (nI k)), (2, .int (zb_e f)), (4, .int (nI b))]) hx hb d_G_findBlocks_55 rfl hl (by decide) rfl (fun ls hl => ?_)
              refine lv_iload_n hx hb d_G_findBlocks_56 rfl (lv_at hl 0 rfl) ?_
              refine lv_iload_n hx hb d_G_findBlocks_57 rfl (lv_at hl 3 rfl) ?_
              refine nx_icmp_ne (tgt := 71) hx hb d_G_findBlocks_58 (by decide) (by omega) (by omega) (fun h58 => ?_) (fun h58 => ?_)
              · skip
                refine lv_iinc (k := 5) (v := nI (b + 1)) (lv' := [(4, .int (nI (b + 1))), (3, .int (nI (r + 1))), (5, .int (zb_e true)), (0, .ref (hs 0)), (1, .int (nI k)), (2, .int (zb_e f))]) hx hb d_G_findBlocks_71 hl rfl (nx_inc1 _) (by decide) rfl (fun ls hl => ?_)
                refine lv_goto (tgt := 5) hx hb d_G_findBlocks_74 (by decide) ?_
                exact ih5 _ (by omega) (b + 1) (r + 1) _ rfl (by omega) (fb_yes hI hu (by have := hI.1; omega)) (lv_sub hl [3, 4, 5, 1, 0] rfl)
              · skip
                refine lv_iload hx hb d_G_findBlocks_61 (lv_at hl 5 rfl) ?_
                refine lv_iload_n hx hb d_G_findBlocks_63 rfl (lv_at hl 3 rfl) ?_
                refine lv_isub hx hb d_G_findBlocks_64 ?_
                refine lv_iconst (v := nI 1) hx hb d_G_findBlocks_65 (by decide +kernel) ?_
                refine lv_iadd hx hb d_G_findBlocks_66 ?_
                refine nx_top (sb_b1 (by omega)) ?_
                refine lv_bipush (v := nI 32) hx hb d_G_findBlocks_67 (by decide +kernel) ?_
                refine nx_imul hx hb d_G_findBlocks_69 ?_
                exact hret 70 ls (nI ((b + 1 - k) * 32)) d_G_findBlocks_70 (by rw [fb_hit hI hu h58 h9, Nat.mul_comm]; exact (if_pos (show 32 * (b + 1 - k) < 512 by omega)).symm)
  exact key5 _ (0) (0) _ rfl (Nat.zero_le _) (fb_0 hk1) (lv_sub hl [2, 3, 4, 1, 0] rfl)

