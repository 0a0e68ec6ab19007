/-! Arrays.fill, both; rangeCheck where it finds nothing -/
set_option maxHeartbeats 4000000 in
set_option maxRecDepth 100000 in
theorem c_A_rangeCheck (l : Launch) (n x y : Nat) (hxy : x ≤ y) (hy2 : y ≤ n) (hn : n ≤ 512) : Met l y_A_rangeCheck (Cond.code y_A_rangeCheck b_A_rangeCheck 3 none :: wa_all) (rm_d 0) (fun v _ => v = ([.int (nI n), .int (nI x), .int (nI y)] : List Value).toArray) gx_V 0 0 (fun _ => False) := by
  refine gx_statV (by decide) (Nat.le_of_ble_eq_true rfl) ?_
  intro p e s m args below meth c ls Q hx hb hml ht hown hret hl
  have hl : lv_has ls 3 [(0, .int (nI n)), (1, .int (nI x)), (2, .int (nI y))] := hl
  have hown : s.vm.findClass R_A = some m.cls := hown
  refine lv_iload_n hx hb d_A_rangeCheck_0 rfl (lv_at hl 1 rfl) ?_
  refine lv_iload_n hx hb d_A_rangeCheck_1 rfl (lv_at hl 2 rfl) ?_
  refine nx_icmp_le (tgt := 46) hx hb d_A_rangeCheck_2 (by decide) (by omega) (by omega) (fun h2 => ?_) (fun h2 => ?_)
  · skip
    refine lv_iload_n hx hb d_A_rangeCheck_46 rfl (lv_at hl 1 rfl) ?_
    refine lv_if_ge (tgt := 59) hx hb d_A_rangeCheck_47 (by decide) (fun _ => ?_) (fun h => absurd (nI_pos' (by omega)) h)
    refine lv_iload_n hx hb d_A_rangeCheck_59 rfl (lv_at hl 2 rfl) ?_
    refine lv_iload_n hx hb d_A_rangeCheck_60 rfl (lv_at hl 0 rfl) ?_
    refine nx_icmp_le (tgt := 73) hx hb d_A_rangeCheck_61 (by decide) (by omega) (by omega) (fun h61 => ?_) (fun h61 => ?_)
    · skip
      exact hret 73 ls d_A_rangeCheck_73
    · skip
      omega
  · skip
    omega

set_option maxHeartbeats 4000000 in
set_option maxRecDepth 100000 in
theorem c_A_fill3 (l : Launch) (D : va_G) (a N : Nat) (cA : ClassId) (f g : Nat → Int32) (x y : Nat) (v : Int32) (hxy : x ≤ y) (hy2 : y ≤ N) (hN : N ≤ 512) (hgf : ∀ j, j < N → g j = if x ≤ j ∧ j < y then v else f j) : Met l y_A_fill3 (Cond.code y_A_fill3 b_A_fill3 5 none :: wa_all) (rm_d 1) (va_Pc [.ref a, .int (nI x), .int (nI y), .int (v)] (gx_I D cl_all [(cA, .int)] ([(a, .inl (cA, N, .inl (f)))]))) (gx_Q D cl_all (fun q => q = a) ([(a, .inl (cA, N, .inl (f)))]) (fun v w' => v = none ∧ w' = [(a, .inl (cA, N, .inl g))])) 0 0 (fun q => q = a) := by
  refine gx_mutV (by decide) (Nat.le_of_ble_eq_true rfl) (fun k q hk => ?_) ?_
  · have hz : k < 1 := (List.getElem?_eq_some_iff.mp hk).1
    rw [show k = 0 by omega] at hk
    cases hk
    rfl
  intro p e s m args below meth c ls Q hx hb hml ht hown hret hP hK hD hS hl
  have hl : lv_has ls 5 [(0, .ref (a)), (1, .int (nI x)), (2, .int (nI y)), (3, .int (v))] := hl
  have hown : s.vm.findClass R_A = some m.cls := hown
  refine lv_aload_n hx hb d_A_fill3_0 rfl (lv_at hl 0 rfl) ?_
  refine va_alen (v := nI N) hx hb hK hP 0 0 rfl rfl rfl d_A_fill3_1 ?_
  refine lv_iload_n hx hb d_A_fill3_2 rfl (lv_at hl 1 rfl) ?_
  refine lv_iload_n hx hb d_A_fill3_3 rfl (lv_at hl 2 rfl) ?_
  refine gx_cSv (n := 3) (own := R_A) (As := [.int (nI N), .int (nI x), .int (nI y)]) (rest := []) ⟨hx, hb, hml, hown, ht⟩ hg_all (c_A_rangeCheck l N x y hxy hy2 hN) wm_134 wm_135 wm_35 wm_136 ⟨rfl, by decide, by decide, by decide +kernel⟩ rfl ⟨rfl, rfl⟩ ⟨by decide, by decide⟩ ⟨by decide, by decide⟩ hl.1 rfl (Nat.le_of_ble_eq_true rfl) d_A_fill3_4 ?_
  refine lv_iload_n hx hb d_A_fill3_7 rfl (lv_at hl 1 rfl) ?_
  refine lv_istore (lv' := [(4, .int (nI x)), (0, .ref (a)), (1, .int (nI x)), (2, .int (nI y)), (3, .int (v))]) hx hb d_A_fill3_8 hl (by decide) rfl (fun ls hl => ?_)
  have key10 : ∀ (n9 : Nat) (i : Nat) (h : Nat → Int32) (H : Heap) (locs : List Loc) (ls : Array Slot), y - i = n9 → x ≤ i → i ≤ y → (∀ j, j < N → h j = if x ≤ j ∧ j < i then v else f j) → lv_has ls 5 [(0, .ref (a)), (1, .int (nI x)), (2, .int (nI y)), (3, .int (v)), (4, .int (nI i))] → va_P D cl_all ([(a, .inl (cA, N, .inl (h)))]) H → va_D (fun q => q = a) ([(a, .inl (cA, N, .inl (h)))]) → va_S (fun q => q = a) s.heap H locs → W p l e (rm_d 1) s m args below meth c H locs 0 0 Q (F0 m 10 ls []) := by
    intro n9
    induction n9 using Nat.strongRecOn with
    | ind n9 ih10 =>
      intro i h H locs ls hn10 hi1 hi hh hl hP hD hS
      refine lv_iload hx hb d_A_fill3_10 (lv_at hl 4 rfl) ?_
      refine lv_iload_n hx hb d_A_fill3_12 rfl (lv_at hl 2 rfl) ?_
      refine nx_icmp_ge (tgt := 27) hx hb d_A_fill3_13 (by decide) (by omega) (by omega) (fun h13 => ?_) (fun h13 => ?_)
      · skip
        exact hret 27 ls _ _ _ d_A_fill3_27 (gx_ext hP (q0 := 0) (g := g) rfl (fun j hj => by rw [hh j hj, hgf j hj, show i = y by omega])) hS rfl ⟨rfl, rfl⟩
      · skip
        refine lv_aload_n hx hb d_A_fill3_16 rfl (lv_at hl 0 rfl) ?_
        refine lv_iload hx hb d_A_fill3_17 (lv_at hl 4 rfl) ?_
        refine lv_iload_n hx hb d_A_fill3_19 rfl (lv_at hl 3 rfl) ?_
        refine nx_rast hx hb hK hP hD hS 0 0 (h) rfl rfl (i) (v) (by omega) (by omega) d_A_fill3_20 (fun H locs hP hD hS => ?_)
        have hP : va_P D cl_all ([(a, .inl (cA, N, .inl (va_up (h) (i) (v))))]) H := hP
        have hD : va_D (fun q => q = a) ([(a, .inl (cA, N, .inl (va_up (h) (i) (v))))]) := hD
        refine lv_iinc (k := 4) (v := nI (i + 1)) (lv' := [(4, .int (nI (i + 1))), (0, .ref (a)), (1, .int (nI x)), (2, .int (nI y)), (3, .int (v))]) hx hb d_A_fill3_21 hl rfl (nx_inc1 _) (by decide) rfl (fun ls hl => ?_)
        refine lv_goto (tgt := 10) hx hb d_A_fill3_24 (by decide) ?_
        exact ih10 _ (by omega) (i + 1) (va_up h i v) _ _ _ rfl (by omega) (by omega) (fun j hj => by
            by_cases e : j = i
            · rw [e, va_up_self, if_pos (by omega)]
            · rw [va_up_ne h v e, hh j hj]
              by_cases q : x ≤ j ∧ j < i
              · rw [if_pos q, if_pos (by omega)]
              · rw [if_neg q, if_neg (by omega)]) (lv_sub hl [1, 2, 3, 4, 0] rfl) hP hD hS
  exact key10 _ (x) (f) _ _ _ rfl (Nat.le_refl _) (hxy) (fun j hj => by rw [if_neg (by omega)]) (lv_sub hl [1, 2, 3, 4, 0] rfl) hP hD hS

set_option maxHeartbeats 4000000 in
set_option maxRecDepth 100000 in
theorem c_A_fill1 (l : Launch) (D : va_G) (a N : Nat) (cA : ClassId) (f g : Nat → Int32) (v : Int32) (hN : N ≤ 512) (hgf : ∀ j, j < N → g j = v) : Met l y_A_fill1 (Cond.code y_A_fill1 b_A_fill1 4 none :: wa_all) (rm_d 0) (va_Pc [.ref a, .int (v)] (gx_I D cl_all [(cA, .int)] ([(a, .inl (cA, N, .inl (f)))]))) (gx_Q D cl_all (fun q => q = a) ([(a, .inl (cA, N, .inl (f)))]) (fun v w' => v = none ∧ w' = [(a, .inl (cA, N, .inl g))])) 0 0 (fun q => q = a) := by
  refine gx_mutV (by decide) (Nat.le_of_ble_eq_true rfl) (fun k q hk => ?_) ?_
  · have hz : k < 1 := (List.getElem?_eq_some_iff.mp hk).1
    rw [show k = 0 by omega] at hk
    cases hk
    rfl
  intro p e s m args below meth c ls Q hx hb hml ht hown hret hP hK hD hS hl
  have hl : lv_has ls 4 [(0, .ref (a)), (1, .int (v))] := hl
  have hown : s.vm.findClass R_A = some m.cls := hown
  refine lv_iconst (v := nI 0) hx hb d_A_fill1_0 (by decide +kernel) ?_
  refine lv_istore_n (lv' := [(2, .int (nI 0)), (0, .ref (a)), (1, .int (v))]) hx hb d_A_fill1_1 rfl hl (by decide) rfl (fun ls hl => ?_)
  refine lv_aload_n hx hb d_A_fill1_2 rfl (lv_at hl 1 rfl) ?_
  refine va_alen (v := nI N) hx hb hK hP 0 0 rfl rfl rfl d_A_fill1_3 ?_
  refine lv_istore_n (lv' := [(3, .int (nI N)), (2, .int (nI 0)), (0, .ref (a)), (1, .int (v))]) hx hb d_A_fill1_4 rfl hl (by decide) rfl (fun ls hl => ?_)
  have key5 : ∀ (n9 : Nat) (i : Nat) (h : Nat → Int32) (H : Heap) (locs : List Loc) (ls : Array Slot), N - i = n9 → i ≤ N → (∀ j, j < N → h j = if j < i then v else f j) → lv_has ls 4 [(0, .ref (a)), (1, .int (v)), (2, .int (nI i)), (3, .int (nI N))] → va_P D cl_all ([(a, .inl (cA, N, .inl (h)))]) H → va_D (fun q => q = a) ([(a, .inl (cA, N, .inl (h)))]) → va_S (fun q => q = a) s.heap H locs → W p l e (rm_d 0) s m args below meth c H locs 0 0 Q (F0 m 5 ls []) := by
    intro n9
    induction n9 using Nat.strongRecOn with
    | ind n9 ih5 =>
      intro i h H locs ls hn5 hi hh hl hP hD hS
      refine lv_iload_n hx hb d_A_fill1_5 rfl (lv_at hl 2 rfl) ?_
      refine lv_iload_n hx hb d_A_fill1_6 rfl (lv_at hl 3 rfl) ?_
      refine nx_icmp_ge (tgt := 20) hx hb d_A_fill1_7 (by decide) (by omega) (by omega) (fun h7 => ?_) (fun h7 => ?_)
      · skip
        exact hret 20 ls _ _ _ d_A_fill1_20 (gx_ext hP (q0 := 0) (g := g) rfl (fun j hj => by rw [hh j hj, hgf j hj, if_pos (by omega)])) hS rfl ⟨rfl, rfl⟩
      · skip
        refine lv_aload_n hx hb d_A_fill1_10 rfl (lv_at hl 0 rfl) ?_
        refine lv_iload_n hx hb d_A_fill1_11 rfl (lv_at hl 2 rfl) ?_
        refine lv_iload_n hx hb d_A_fill1_12 rfl (lv_at hl 1 rfl) ?_
        refine nx_rast hx hb hK hP hD hS 0 0 (h) rfl rfl (i) (v) (by omega) (by omega) d_A_fill1_13 (fun H locs hP hD hS => ?_)
        have hP : va_P D cl_all ([(a, .inl (cA, N, .inl (va_up (h) (i) (v))))]) H := hP
        have hD : va_D (fun q => q = a) ([(a, .inl (cA, N, .inl (va_up (h) (i) (v))))]) := hD
        refine lv_iinc (k := 2) (v := nI (i + 1)) (lv' := [(2, .int (nI (i + 1))), (0, .ref (a)), (1, .int (v)), (3, .int (nI N))]) hx hb d_A_fill1_14 hl rfl (nx_inc1 _) (by decide) rfl (fun ls hl => ?_)
        refine lv_goto (tgt := 5) hx hb d_A_fill1_17 (by decide) ?_
        exact ih5 _ (by omega) (i + 1) (va_up h i v) _ _ _ rfl (by omega) (fun j hj => by
            by_cases e : j = i
            · rw [e, va_up_self, if_pos (by omega)]
            · rw [va_up_ne h v e, hh j hj]
              by_cases q : j < i
              · rw [if_pos q, if_pos (by omega)]
              · rw [if_neg q, if_neg (by omega)]) (lv_sub hl [1, 2, 0, 3] rfl) hP hD hS
  exact key5 _ (0) (f) _ _ _ rfl (Nat.zero_le _) (fun j hj => by rw [if_neg (by omega)]) (lv_sub hl [2, 3, 1, 0] rfl) hP hD hS

