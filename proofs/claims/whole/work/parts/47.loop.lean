/-! the law's loop -/
section LP
variable {p : Program} {l : Launch} {e : Env} {s : State} {m : MethodId} {below : List Frame} {meth : Method} {c : Code} {b L : Nat} {xs : Nat → Int32} {D : va_G} {ca : Nat → ClassId} {hs : Nat → Nat} {ca2 : Nat → ClassId} {gs : Nat → Nat} {cL : ClassId} {oa : Nat}
theorem sw_l (x : Int32) : ∃ t, t < 16 ∧ x &&& nI 15 = nI t := by
  have h := pk_andIn x (m := nI 15) 4 (by decide) (by decide)
  refine (bk_l (bk_t (fun h1 => h (Or.inl h1)) (fun h2 => h (Or.inr ?_))))
  have h3 := Int32.le_iff_toInt_le.mp h2
  show 16 ≤ (x &&& nI 15).toInt.toNat
  have h4 : (nI 16).toInt = 16 := by decide
  rw [h4] at h3
  omega
theorem lw_loop (C : lw_C p l s m meth c b L xs D ca hs ca2 gs cL oa) : ∀ (n9 j : Nat), n9 = L - 3 * j → 3 * j ≤ L → ∀ (H : Heap) (rt wd : Nat → Int32) (ob ln kd : Nat → Nat) (qt df : Nat → Bool) (cn : Nat) (w w2 : va_W) (th : Nat) (ov : Nat → Int64) (ls : Array Slot), lw_V s D ca hs ca2 gs cL oa H rt wd ob ln kd qt df cn w w2 th ov → iv_a ob ln kd wd (iv_c ob) → lv_has ls 7 (lw_lv b (hs 0) (gs 0) oa j) →
    W p l e room_1 s m #[Value.ref b] below meth c H [] (20 + j) (5480 + 6 * j) (lw_Z below #[Value.ref b] s) (F0 m 23 ls []) := by
  intro n9
  induction n9 using Nat.strongRecOn with
  | ind n9 ih =>
    intro j hn hjL H rt wd ob ln kd qt df cn w w2 th ov ls V hv hl
    have hx := C.1.1
    have hb := C.1.2.1
    have hrt := C.1.2.2.1
    have hX := C.1.2.2.2.2.2.2.1
    have hbl := C.1.2.2.2.2.2.2.2.1
    have hlk := C.1.2.2.2.2.2.2.2.2.1
    have hL := C.1.2.2.2.2.2.2.2.2.2
    have hS := V.2.2.2.2.2
    have hbA : ¬ lw_A s b := fun h => Nat.lt_irrefl _ (Nat.lt_of_lt_of_le hbl h)
    have fin : W p l e room_1 s m #[Value.ref b] below meth c H [] (20 + j) (5480 + 6 * j) (lw_Z below #[Value.ref b] s) (F0 m 586 ls []) := by
      refine lv_iconst (v := 1) hx hb d_L_law_586 (by decide +kernel) ?_
      refine W.widen (k := 601024) (n := 7293034) (by omega) (by omega) ?_
      exact lw_ret hx hb hrt hlk d_L_law_587
    refine lv_iload hx hb d_L_law_23 (lv_at hl 4 rfl) ?_
    refine lv_aload_n hx hb d_L_law_25 rfl (lv_at hl 0 rfl) ?_
    refine va_slen (A := lw_A s) hx hb hX hbl hbA hS d_L_law_26 ?_
    refine nx_top (show Int32.ofNat L = nI L from rfl) ?_
    refine lv_iconst (v := nI 3) hx hb d_L_law_27 (by decide +kernel) ?_
    by_cases h3 : L < 3
    · have hj0 : j = 0 := by omega
      subst hj0
      refine lv_isub hx hb d_L_law_28 ?_
      refine lv_icmp_gt (tgt := 586) hx hb d_L_law_29 (by decide) (fun _ => fin) (fun h => ?_)
      exfalso
      apply h
      rcases (show L = 0 ∨ L = 1 ∨ L = 2 by omega) with e | e | e <;> (rw [e]; decide)
    · refine nx_isub hx hb d_L_law_28 (by omega) ?_
      refine nx_icmp_gt (tgt := 586) hx hb d_L_law_29 (by decide) (by omega) (by omega) (fun _ => fin) (fun hle => ?_)
      have hj : 3 * j + 2 < L := by omega
      have K : lw_K p l e s m below meth c b D ca hs ca2 gs cL oa j (lw_Z below #[Value.ref b] s) := by
        intro H rt wd ob ln kd qt df cn w w2 th ov ls V hv hl
        refine lv_iinc (k := 4) (v := nI (3 * (j + 1))) (lv' := (4, .int (nI (3 * (j + 1)))) :: [(0, .ref b), (1, .ref (hs 0)), (2, .ref (gs 0)), (3, .ref oa)]) hx hb d_L_law_580 hl rfl (by rw [show 3 * (j + 1) = 3 * j + 3 by omega, show Int32.ofInt 3 = nI 3 by decide, nI_add]) (by decide) rfl (fun ls hl => ?_)
        refine lv_goto (tgt := 23) hx hb d_L_law_583 (by decide) ?_
        refine W.widen (k := 20 + (j + 1)) (n := 5480 + 6 * (j + 1)) (by omega) (by omega) ?_
        exact ih (L - 3 * (j + 1)) (by omega) (j + 1) rfl (by omega) H rt wd ob ln kd qt df cn w w2 th ov ls V hv (lv_sub hl [1, 2, 3, 4, 0] rfl)
      refine lv_aload_n hx hb d_L_law_32 rfl (lv_at hl 0 rfl) ?_
      refine lv_iload hx hb d_L_law_33 (lv_at hl 4 rfl) ?_
      refine va_sld (A := lw_A s) hx hb hX hbl hbA hS (pk_in (3 * j) L (by omega)) d_L_law_35 ?_
      refine lv_bipush (v := nI 15) hx hb d_L_law_36 (by decide +kernel) ?_
      refine lv_iand hx hb d_L_law_38 ?_
      obtain ⟨t, ht, et⟩ := sw_l (xs (nI (3 * j)).toNatClampNeg)
      refine nx_top et ?_
      rcases (show t = 0 ∨ t = 1 ∨ t = 2 ∨ t = 3 ∨ t = 4 ∨ t = 5 ∨ t = 6 ∨ t = 7 ∨ t = 8 ∨ t = 9 ∨ t = 10 ∨ t = 11 ∨ t = 12 ∨ t = 13 ∨ t = 14 ∨ t = 15 by omega) with rfl | rfl | rfl | rfl | rfl | rfl | rfl | rfl | rfl | rfl | rfl | rfl | rfl | rfl | rfl | rfl
      · exact lv_tableIn (tgt := 104) (off := 65) hx hb d_L_law_39 (by decide) (by decide) (by decide) (by decide) (sg_0 C V hv hl hj K)
      · exact lv_tableIn (tgt := 188) (off := 149) hx hb d_L_law_39 (by decide) (by decide) (by decide) (by decide) (sg_1 C V hv hl hj K)
      · exact lv_tableIn (tgt := 236) (off := 197) hx hb d_L_law_39 (by decide) (by decide) (by decide) (by decide) (sg_2 C V hv hl hj K)
      · exact lv_tableIn (tgt := 292) (off := 253) hx hb d_L_law_39 (by decide) (by decide) (by decide) (by decide) (sg_3 C V hv hl hj K)
      · exact lv_tableIn (tgt := 348) (off := 309) hx hb d_L_law_39 (by decide) (by decide) (by decide) (by decide) (sg_4 C V hv hl hj K)
      · exact lv_tableIn (tgt := 416) (off := 377) hx hb d_L_law_39 (by decide) (by decide) (by decide) (by decide) (sg_5 C V hv hl hj K)
      · exact lv_tableIn (tgt := 429) (off := 390) hx hb d_L_law_39 (by decide) (by decide) (by decide) (by decide) (sg_6 C V hv hl hj K)
      · exact lv_tableIn (tgt := 454) (off := 415) hx hb d_L_law_39 (by decide) (by decide) (by decide) (by decide) (sg_7 C V hv hl hj K)
      · exact lv_tableIn (tgt := 479) (off := 440) hx hb d_L_law_39 (by decide) (by decide) (by decide) (by decide) (sg_8 C V hv hl hj K)
      · exact lv_tableIn (tgt := 504) (off := 465) hx hb d_L_law_39 (by decide) (by decide) (by decide) (by decide) (sg_9 C V hv hl hj K)
      · exact lv_tableIn (tgt := 529) (off := 490) hx hb d_L_law_39 (by decide) (by decide) (by decide) (by decide) (sg_10 C V hv hl hj K)
      · exact lv_tableIn (tgt := 554) (off := 515) hx hb d_L_law_39 (by decide) (by decide) (by decide) (by decide) (sg_11 C V hv hl hj K)
      · exact lv_tableIn (tgt := 567) (off := 528) hx hb d_L_law_39 (by decide) (by decide) (by decide) (by decide) (sg_12 C V hv hl hj K)
      · refine lv_tableOut (tgt := 580) hx hb d_L_law_39 (by decide) (by decide) ?_
        refine W.widen (k := 21 + j) (n := 5486 + 6 * j) (by omega) (by omega) ?_
        exact K H rt wd ob ln kd qt df cn w w2 th ov ls V hv hl
      · refine lv_tableOut (tgt := 580) hx hb d_L_law_39 (by decide) (by decide) ?_
        refine W.widen (k := 21 + j) (n := 5486 + 6 * j) (by omega) (by omega) ?_
        exact K H rt wd ob ln kd qt df cn w w2 th ov ls V hv hl
      · refine lv_tableOut (tgt := 580) hx hb d_L_law_39 (by decide) (by decide) ?_
        refine W.widen (k := 21 + j) (n := 5486 + 6 * j) (by omega) (by omega) ?_
        exact K H rt wd ob ln kd qt df cn w w2 th ov ls V hv hl
end LP
