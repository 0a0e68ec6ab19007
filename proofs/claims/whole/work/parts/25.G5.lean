/-! the class: looking at all that must be looked at, giving up, freeing -/
theorem pe_0 {P : Int32 → Prop} {f : Nat → Int32} (w : Int32) : (P w ∨ ∃ j, j < 0 ∧ w = f j) ↔ P w := ⟨fun h => h.elim id (fun ⟨_, h1, _⟩ => absurd h1 (Nat.not_lt_zero _)), Or.inl⟩
theorem pe_s {P : Int32 → Prop} {f : Nat → Int32} {r : Nat} (w : Int32) : (P w ∨ ∃ j, j < r + 1 ∧ w = f j) ↔ ((P w ∨ ∃ j, j < r ∧ w = f j) ∨ w = f r) := by
  constructor
  · rintro (h | ⟨j, h1, h2⟩)
    · exact Or.inl (Or.inl h)
    · by_cases e : j = r
      · subst e
        exact Or.inr h2
      · exact Or.inl (Or.inr ⟨j, by omega, h2⟩)
  · rintro ((h | ⟨j, h1, h2⟩) | h)
    · exact Or.inl h
    · exact Or.inr ⟨j, by omega, h2⟩
    · exact Or.inr ⟨r, by omega, h⟩
theorem bl_eq {b : Bool} {P : Prop} (h : b = true ↔ P) : b = cl_b P := by
  cases hb : b with
  | true => exact (cl_t.mpr (h.mp hb)).symm
  | false => exact (cl_f.mpr (fun q => by rw [h.mpr q] at hb; cases hb)).symm
set_option maxHeartbeats 4000000 in
set_option maxRecDepth 100000 in
theorem c_G_lookAtRoots (l : Launch) (D : va_G) (ca : Nat → ClassId) (hs : Nat → Nat) (rt : Nat → Int32) (wd : Nat → Int32) (ob : Nat → Nat) (ln : Nat → Nat) (kd : Nat → Nat) (qt : Nat → Bool) (df : Nat → Bool) (mk : Nat → Bool) (fd : Nat → Nat) (fc : Nat) (oc : Nat) (cn : Nat) (hov : iv_o ob ln kd) (hk : ∀ b, b < 16 → kd b < 34) (P : Int32 → Prop) (hmi : mk_i ob kd mk df P) (hfi : fi_I ob mk fd fc) : Met l y_G_lookAtRoots (Cond.code y_G_lookAtRoots b_G_lookAtRoots 2 none :: wa_all) (rm_d 3) (va_Pc [.ref (hs 0)] (gx_I D cl_all (ty_G ca) (gw_G ca hs rt wd ob ln kd qt df mk fd fc oc cn))) (gx_Q D cl_all (gx_A hs 10) (gw_G ca hs rt wd ob ln kd qt df mk fd fc oc cn) (fun v w' => v = none ∧ ∃ (df2 mk2 : Nat → Bool) (fd2 : Nat → Nat) (fc2 : Nat), w' = gw_G ca hs rt wd ob ln kd qt df2 mk2 fd2 fc2 oc cn ∧ mk_i ob kd mk2 df2 (fun v => P v ∨ ∃ j, j < 8 ∧ v = rt j) ∧ fi_I ob mk2 fd2 fc2 ∧ fc ≤ fc2 ∧ ∀ i, i < fc → fd2 i = fd i)) 0 0 (gx_A hs 10) := by
  refine gx_mutV (by decide) (Nat.le_of_ble_eq_true rfl) gw_G_in ?_
  intro p e s m args below meth c ls Q hx hb hml ht hown hret hP hK hD hS hl
  have hl : lv_has ls 2 [(0, .ref (hs 0))] := hl
  have hown : s.vm.findClass R_G = some m.cls := hown
  have hP : va_P D cl_all (gw_G ca hs rt wd ob ln kd qt df mk fd fc oc cn) s.heap := hP
  refine lv_iconst (v := nI 0) hx hb d_G_lookAtRoots_0 (by decide +kernel) ?_
  refine lv_istore_n (lv' := [(1, .int (nI 0)), (0, .ref (hs 0))]) hx hb d_G_lookAtRoots_1 rfl hl (by decide) rfl (fun ls hl => ?_)
  have key2 : ∀ (n9 : Nat) (r : Nat) (df2 : Nat → Bool) (mk2 : Nat → Bool) (fd2 : Nat → Nat) (fc2 : Nat) (H : Heap) (locs : List Loc) (ls : Array Slot), 8 - r = n9 → r ≤ 8 → mk_i ob kd mk2 df2 (fun v => P v ∨ ∃ j, j < r ∧ v = (fun j => rt j) j) → fi_I ob mk2 fd2 fc2 → fc ≤ fc2 → (∀ i, i < fc → fd2 i = fd i) → lv_has ls 2 [(0, .ref (hs 0)), (1, .int (nI r))] → va_P D cl_all (gw_G ca hs rt wd ob ln kd qt df2 mk2 fd2 fc2 oc cn) H → va_D (gx_A hs 10) (gw_G ca hs rt wd ob ln kd qt df2 mk2 fd2 fc2 oc cn) → va_S (gx_A hs 10) s.heap H locs → W p l e (rm_d 3) s m args below meth c H locs 0 0 Q (F0 m 2 ls []) := by
    intro n9
    induction n9 using Nat.strongRecOn with
    | ind n9 ih2 =>
      intro r df2 mk2 fd2 fc2 H locs ls hn2 hi hmi2 hfi2 hle2 hfd2 hl hP hD hS
      refine lv_iload_n hx hb d_G_lookAtRoots_2 rfl (lv_at hl 1 rfl) ?_
      refine lv_bipush (v := nI 8) hx hb d_G_lookAtRoots_3 (by decide +kernel) ?_
      refine nx_icmp_ge (tgt := 24) hx hb d_G_lookAtRoots_5 (by decide) (by omega) (by omega) (fun h5 => ?_) (fun h5 => ?_)
      · skip
        refine hret 24 ls _ _ _ d_G_lookAtRoots_24 hP hS ?_ ?_
        · exact gw_G_adr.trans gw_G_adr.symm
        · exact ⟨rfl, _, _, _, _, rfl, (show r = 8 by omega) ▸ hmi2, hfi2, hle2, hfd2⟩
      · skip
        refine lv_aload_n hx hb d_G_lookAtRoots_8 rfl (lv_at hl 0 rfl) ?_
        refine lv_aload_n hx hb d_G_lookAtRoots_9 rfl (lv_at hl 0 rfl) ?_
        refine va_get (D := D) (ci := 0) (v := .ref (hs 1)) (C := R_G) (T := F_G) (N := 12) hx hb ht in_G hown hK hP 0 rfl rfl 0 (by decide) (ht _ wm_55) (fun _ h9 => h9) rfl d_G_lookAtRoots_10 ?_
        refine lv_iload_n hx hb d_G_lookAtRoots_13 rfl (lv_at hl 1 rfl) ?_
        refine nx_rald hx hb hK hP 1 0 rt rfl rfl r (by omega) (by decide) d_G_lookAtRoots_14 ?_
        refine gx_cM (n := 1) (q0 := 0) (ci := 0) (q := (R_G, F_G, 12)) (C := R_G) (own := R_G) (As := [.int (rt r)]) (rest := []) ⟨hx, hb, hml, hown, ht⟩ hg_all (c_G_lookAt l D ca hs (rt) (wd) (ob) (ln) (kd) (qt) (df2) (mk2) (fd2) (fc2) (oc) (cn) hov hk (fun v => P v ∨ ∃ j, j < r ∧ v = (fun j => rt j) j) hmi2 hfi2 (rt r)) wm_107 wm_108 wm_3 wm_34 wm_109 ⟨rfl, by decide, by decide, by decide +kernel⟩ rfl ⟨rfl, rfl⟩ ⟨by decide, by decide⟩ ⟨by decide, by decide⟩ hK hP hD hS (fun _ h => h) rfl rfl rfl hl.1 rfl (Nat.le_of_ble_eq_true rfl) d_G_lookAtRoots_15 (fun v w' H locs hZ hP hD hS _ _ => ?_)
        obtain ⟨rfl, df3, mk3, fd3, fc3, rfl, hmi3, hfi3, hle3, hfd3⟩ := hZ
        have hP : va_P D cl_all (gw_G ca hs rt wd ob ln kd qt df3 mk3 fd3 fc3 oc cn) H := hP
        have hD : va_D (gx_A hs 10) (gw_G ca hs rt wd ob ln kd qt df3 mk3 fd3 fc3 oc cn) := hD
        refine lv_iinc (k := 1) (v := nI (r + 1)) (lv' := [(1, .int (nI (r + 1))), (0, .ref (hs 0))]) hx hb d_G_lookAtRoots_18 hl rfl (nx_inc1 _) (by decide) rfl (fun ls hl => ?_)
        refine lv_goto (tgt := 2) hx hb d_G_lookAtRoots_21 (by decide) ?_
        exact ih2 _ (by omega) (r + 1) (df3) (mk3) (fd3) (fc3) _ _ _ rfl (by omega) (mk_ix hmi3 (fun _ => rfl) (fun _ => rfl) (fun w => pe_s (f := fun j => rt j) w)) (hfi3) (by omega) (fun i hi => (hfd3 i (by omega)).trans (hfd2 i hi)) (lv_sub hl [1, 0] rfl) hP hD hS
  exact key2 _ (0) (df) (mk) (fd) (fc) _ _ _ rfl (Nat.zero_le _) (mk_ix hmi (fun _ => rfl) (fun _ => rfl) (fun w => pe_0 (f := fun j => rt j) w)) (hfi) (Nat.le_refl _) (fun _ _ => rfl) (lv_sub hl [1, 0] rfl) hP hD hS

set_option maxHeartbeats 4000000 in
set_option maxRecDepth 100000 in
theorem c_G_lookAtWords (l : Launch) (D : va_G) (ca : Nat → ClassId) (hs : Nat → Nat) (rt : Nat → Int32) (wd : Nat → Int32) (ob : Nat → Nat) (ln : Nat → Nat) (kd : Nat → Nat) (qt : Nat → Bool) (df : Nat → Bool) (mk : Nat → Bool) (fd : Nat → Nat) (fc : Nat) (oc : Nat) (cn : Nat) (hov : iv_o ob ln kd) (hk : ∀ b, b < 16 → kd b < 34) (P : Int32 → Prop) (hmi : mk_i ob kd mk df P) (hfi : fi_I ob mk fd fc) (a0 lz : Nat) (hal : a0 + lz ≤ 512) : Met l y_G_lookAtWords (Cond.code y_G_lookAtWords b_G_lookAtWords 4 none :: wa_all) (rm_d 3) (va_Pc [.ref (hs 0), .int (nI a0), .int (nI lz)] (gx_I D cl_all (ty_G ca) (gw_G ca hs rt wd ob ln kd qt df mk fd fc oc cn))) (gx_Q D cl_all (gx_A hs 10) (gw_G ca hs rt wd ob ln kd qt df mk fd fc oc cn) (fun v w' => v = none ∧ ∃ (df2 mk2 : Nat → Bool) (fd2 : Nat → Nat) (fc2 : Nat), w' = gw_G ca hs rt wd ob ln kd qt df2 mk2 fd2 fc2 oc cn ∧ mk_i ob kd mk2 df2 (fun v => P v ∨ ∃ j, j < lz ∧ v = wd (a0 + j)) ∧ fi_I ob mk2 fd2 fc2 ∧ fc ≤ fc2 ∧ ∀ i, i < fc → fd2 i = fd i)) 0 0 (gx_A hs 10) := by
  refine gx_mutV (by decide) (Nat.le_of_ble_eq_true rfl) gw_G_in ?_
  intro p e s m args below meth c ls Q hx hb hml ht hown hret hP hK hD hS hl
  have hl : lv_has ls 4 [(0, .ref (hs 0)), (1, .int (nI a0)), (2, .int (nI lz))] := hl
  have hown : s.vm.findClass R_G = some m.cls := hown
  have hP : va_P D cl_all (gw_G ca hs rt wd ob ln kd qt df mk fd fc oc cn) s.heap := hP
  refine lv_iconst (v := nI 0) hx hb d_G_lookAtWords_0 (by decide +kernel) ?_
  refine lv_istore_n (lv' := [(3, .int (nI 0)), (0, .ref (hs 0)), (1, .int (nI a0)), (2, .int (nI lz))]) hx hb d_G_lookAtWords_1 rfl hl (by decide) rfl (fun ls hl => ?_)
  have key2 : ∀ (n9 : Nat) (x : Nat) (df2 : Nat → Bool) (mk2 : Nat → Bool) (fd2 : Nat → Nat) (fc2 : Nat) (H : Heap) (locs : List Loc) (ls : Array Slot), lz - x = n9 → x ≤ lz → mk_i ob kd mk2 df2 (fun v => P v ∨ ∃ j, j < x ∧ v = (fun j => wd (a0 + j)) j) → fi_I ob mk2 fd2 fc2 → fc ≤ fc2 → (∀ i, i < fc → fd2 i = fd i) → lv_has ls 4 [(0, .ref (hs 0)), (1, .int (nI a0)), (2, .int (nI lz)), (3, .int (nI x))] → va_P D cl_all (gw_G ca hs rt wd ob ln kd qt df2 mk2 fd2 fc2 oc cn) H → va_D (gx_A hs 10) (gw_G ca hs rt wd ob ln kd qt df2 mk2 fd2 fc2 oc cn) → va_S (gx_A hs 10) s.heap H locs → W p l e (rm_d 3) s m args below meth c H locs 0 0 Q (F0 m 2 ls []) := by
    intro n9
    induction n9 using Nat.strongRecOn with
    | ind n9 ih2 =>
      intro x df2 mk2 fd2 fc2 H locs ls hn2 hi hmi2 hfi2 hle2 hfd2 hl hP hD hS
      refine lv_iload_n hx hb d_G_lookAtWords_2 rfl (lv_at hl 3 rfl) ?_
      refine lv_iload_n hx hb d_G_lookAtWords_3 rfl (lv_at hl 2 rfl) ?_
      refine nx_icmp_ge (tgt := 25) hx hb d_G_lookAtWords_4 (by decide) (by omega) (by omega) (fun h4 => ?_) (fun h4 => ?_)
      · skip
        refine hret 25 ls _ _ _ d_G_lookAtWords_25 hP hS ?_ ?_
        · exact gw_G_adr.trans gw_G_adr.symm
        · exact ⟨rfl, _, _, _, _, rfl, (show x = lz by omega) ▸ hmi2, hfi2, hle2, hfd2⟩
      · skip
        refine lv_aload_n hx hb d_G_lookAtWords_7 rfl (lv_at hl 0 rfl) ?_
        refine lv_aload_n hx hb d_G_lookAtWords_8 rfl (lv_at hl 0 rfl) ?_
        refine va_get (D := D) (ci := 0) (v := .ref (hs 4)) (C := R_G) (T := F_G) (N := 12) hx hb ht in_G hown hK hP 0 rfl rfl 3 (by decide) (ht _ wm_58) (fun _ h9 => h9) rfl d_G_lookAtWords_9 ?_
        refine lv_iload_n hx hb d_G_lookAtWords_12 rfl (lv_at hl 1 rfl) ?_
        refine lv_iload_n hx hb d_G_lookAtWords_13 rfl (lv_at hl 3 rfl) ?_
        refine nx_iadd hx hb d_G_lookAtWords_14 ?_
        refine nx_rald hx hb hK hP 4 3 wd rfl rfl (a0 + x) (by omega) (by decide) d_G_lookAtWords_15 ?_
        refine gx_cM (n := 1) (q0 := 0) (ci := 0) (q := (R_G, F_G, 12)) (C := R_G) (own := R_G) (As := [.int (wd (a0 + x))]) (rest := []) ⟨hx, hb, hml, hown, ht⟩ hg_all (c_G_lookAt l D ca hs (rt) (wd) (ob) (ln) (kd) (qt) (df2) (mk2) (fd2) (fc2) (oc) (cn) hov hk (fun v => P v ∨ ∃ j, j < x ∧ v = (fun j => wd (a0 + j)) j) hmi2 hfi2 (wd (a0 + x))) wm_107 wm_108 wm_3 wm_34 wm_109 ⟨rfl, by decide, by decide, by decide +kernel⟩ rfl ⟨rfl, rfl⟩ ⟨by decide, by decide⟩ ⟨by decide, by decide⟩ hK hP hD hS (fun _ h => h) rfl rfl rfl hl.1 rfl (Nat.le_of_ble_eq_true rfl) d_G_lookAtWords_16 (fun v w' H locs hZ hP hD hS _ _ => ?_)
        obtain ⟨rfl, df3, mk3, fd3, fc3, rfl, hmi3, hfi3, hle3, hfd3⟩ := hZ
        have hP : va_P D cl_all (gw_G ca hs rt wd ob ln kd qt df3 mk3 fd3 fc3 oc cn) H := hP
        have hD : va_D (gx_A hs 10) (gw_G ca hs rt wd ob ln kd qt df3 mk3 fd3 fc3 oc cn) := hD
        refine lv_iinc (k := 3) (v := nI (x + 1)) (lv' := [(3, .int (nI (x + 1))), (0, .ref (hs 0)), (1, .int (nI a0)), (2, .int (nI lz))]) hx hb d_G_lookAtWords_19 hl rfl (nx_inc1 _) (by decide) rfl (fun ls hl => ?_)
        refine lv_goto (tgt := 2) hx hb d_G_lookAtWords_22 (by decide) ?_
        exact ih2 _ (by omega) (x + 1) (df3) (mk3) (fd3) (fc3) _ _ _ rfl (by omega) (mk_ix hmi3 (fun _ => rfl) (fun _ => rfl) (fun w => pe_s (f := fun j => wd (a0 + j)) w)) (hfi3) (by omega) (fun i hi => (hfd3 i (by omega)).trans (hfd2 i hi)) (lv_sub hl [1, 2, 3, 0] rfl) hP hD hS
  exact key2 _ (0) (df) (mk) (fd) (fc) _ _ _ rfl (Nat.zero_le _) (mk_ix hmi (fun _ => rfl) (fun _ => rfl) (fun w => pe_0 (f := fun j => wd (a0 + j)) w)) (hfi) (Nat.le_refl _) (fun _ _ => rfl) (lv_sub hl [1, 2, 3, 0] rfl) hP hD hS

set_option maxHeartbeats 4000000 in
set_option maxRecDepth 100000 in
theorem c_G_lookAtMarkedObjects (l : Launch) (D : va_G) (ca : Nat → ClassId) (hs : Nat → Nat) (rt : Nat → Int32) (wd : Nat → Int32) (ob : Nat → Nat) (ln : Nat → Nat) (kd : Nat → Nat) (qt : Nat → Bool) (df : Nat → Bool) (mk : Nat → Bool) (fd : Nat → Nat) (fc : Nat) (oc : Nat) (cn : Nat) (hov : iv_o ob ln kd) (hk : ∀ b, b < 16 → kd b < 34) (P : Int32 → Prop) (hmi : mk_i ob kd mk df P) (hfi : fi_I ob mk fd fc) (hsn : ∀ w, P w → mk_s rt wd ln qt (mk_r rt wd ob ln qt) w) (hrt : ∀ r, r < 8 → P (rt r)) : Met l y_G_lookAtMarkedObjects (Cond.code y_G_lookAtMarkedObjects b_G_lookAtMarkedObjects 3 none :: wa_all) (rm_d 4) (va_Pc [.ref (hs 0)] (gx_I D cl_all (ty_G ca) (gw_G ca hs rt wd ob ln kd qt df mk fd fc oc cn))) (gx_Q D cl_all (gx_A hs 10) (gw_G ca hs rt wd ob ln kd qt df mk fd fc oc cn) (fun v w' => v = none ∧ ∃ (fd2 : Nat → Nat) (fc2 : Nat), w' = gw_G ca hs rt wd ob ln kd qt (co_df rt wd ob ln kd qt) (co_mk rt wd ob ln qt) fd2 fc2 oc cn)) 0 0 (gx_A hs 10) := by
  refine gx_mutV (by decide) (Nat.le_of_ble_eq_true rfl) gw_G_in ?_
  intro p e s m args below meth c ls Q hx hb hml ht hown hret hP hK hD hS hl
  have hl : lv_has ls 3 [(0, .ref (hs 0))] := hl
  have hown : s.vm.findClass R_G = some m.cls := hown
  have hP : va_P D cl_all (gw_G ca hs rt wd ob ln kd qt df mk fd fc oc cn) s.heap := hP
  refine lv_iconst (v := nI 0) hx hb d_G_lookAtMarkedObjects_0 (by decide +kernel) ?_
  refine lv_istore_n (lv' := [(1, .int (nI 0)), (0, .ref (hs 0))]) hx hb d_G_lookAtMarkedObjects_1 rfl hl (by decide) rfl (fun ls hl => ?_)
  have key2 : ∀ (n9 : Nat) (i : Nat) (df2 : Nat → Bool) (mk2 : Nat → Bool) (fd2 : Nat → Nat) (fc2 : Nat) (P2 : Int32 → Prop) (H : Heap) (locs : List Loc) (ls : Array Slot), 256 - i = n9 → i ≤ 256 → mk_i ob kd mk2 df2 P2 → fi_I ob mk2 fd2 fc2 → (∀ w, P2 w → mk_s rt wd ln qt (mk_r rt wd ob ln qt) w) → (∀ r, r < 8 → P2 (rt r)) → (∀ j, j < i → qt (fd2 j) = false → ∀ t, t < ln (fd2 j) → P2 (wd (fd2 j + t))) → lv_has ls 3 [(0, .ref (hs 0)), (1, .int (nI i))] → va_P D cl_all (gw_G ca hs rt wd ob ln kd qt df2 mk2 fd2 fc2 oc cn) H → va_D (gx_A hs 10) (gw_G ca hs rt wd ob ln kd qt df2 mk2 fd2 fc2 oc cn) → va_S (gx_A hs 10) s.heap H locs → W p l e (rm_d 4) s m args below meth c H locs 0 0 Q (F0 m 2 ls []) := by
    intro n9
    induction n9 using Nat.strongRecOn with
    | ind n9 ih2 =>
      intro i df2 mk2 fd2 fc2 P2 H locs ls hn2 hi hmi2 hfi2 hsn2 hrt2 hpr2 hl hP hD hS
      refine lv_iload_n hx hb d_G_lookAtMarkedObjects_2 rfl (lv_at hl 1 rfl) ?_
      refine lv_sipush (v := nI 256) hx hb d_G_lookAtMarkedObjects_3 (by decide +kernel) ?_
      refine nx_icmp_ge (tgt := 50) hx hb d_G_lookAtMarkedObjects_6 (by decide) (by omega) (by omega) (fun h6 => ?_) (fun h6 => ?_)
      · skip
        have hfe : fc2 ≤ i := by have := fi_le hfi2; omega
        have hcm : ∀ w, mk_s rt wd ln qt (fun p => mk2 p = true) w → P2 w := by
          rintro w (⟨r, h1, rfl⟩ | ⟨q, j, h1, h2, h3, rfl⟩)
          · exact hrt2 r h1
          · obtain ⟨i0, i1, rfl⟩ := hfi2.2.2.1 q h1
            exact hpr2 i0 (by omega) h2 j h3
        obtain ⟨hE1, hE2⟩ := mk_end hmi2 hsn2 hcm
        have e1 : mk2 = co_mk rt wd ob ln qt := funext fun p => bl_eq (hE1 p)
        have e2 : df2 = co_df rt wd ob ln kd qt := funext fun b => bl_eq (hE2 b)
        subst e1
        subst e2
        have hP : va_P D cl_all (gw_G ca hs rt wd ob ln kd qt (co_df rt wd ob ln kd qt) (co_mk rt wd ob ln qt) fd2 fc2 oc cn) H := hP
        have hD : va_D (gx_A hs 10) (gw_G ca hs rt wd ob ln kd qt (co_df rt wd ob ln kd qt) (co_mk rt wd ob ln qt) fd2 fc2 oc cn) := hD
        refine hret 50 ls _ _ _ d_G_lookAtMarkedObjects_50 hP hS ?_ ?_
        · exact gw_G_adr.trans gw_G_adr.symm
        · exact ⟨rfl, _, _, rfl⟩
      · skip
        refine lv_iload_n hx hb d_G_lookAtMarkedObjects_9 rfl (lv_at hl 1 rfl) ?_
        refine lv_aload_n hx hb d_G_lookAtMarkedObjects_10 rfl (lv_at hl 0 rfl) ?_
        refine va_get (D := D) (ci := 0) (v := .int (nI fc2)) (C := R_G) (T := F_G) (N := 12) hx hb ht in_G hown hK hP 0 rfl rfl 9 (by decide) (ht _ wm_64) (fun _ h9 => h9) rfl d_G_lookAtMarkedObjects_11 ?_
        refine nx_icmp_ge (tgt := 50) hx hb d_G_lookAtMarkedObjects_14 (by decide) (by omega) (by have := fi_le hfi2; omega) (fun h14 => ?_) (fun h14 => ?_)
        · skip
          have hfe : fc2 ≤ i := by have := fi_le hfi2; omega
          have hcm : ∀ w, mk_s rt wd ln qt (fun p => mk2 p = true) w → P2 w := by
            rintro w (⟨r, h1, rfl⟩ | ⟨q, j, h1, h2, h3, rfl⟩)
            · exact hrt2 r h1
            · obtain ⟨i0, i1, rfl⟩ := hfi2.2.2.1 q h1
              exact hpr2 i0 (by omega) h2 j h3
          obtain ⟨hE1, hE2⟩ := mk_end hmi2 hsn2 hcm
          have e1 : mk2 = co_mk rt wd ob ln qt := funext fun p => bl_eq (hE1 p)
          have e2 : df2 = co_df rt wd ob ln kd qt := funext fun b => bl_eq (hE2 b)
          subst e1
          subst e2
          have hP : va_P D cl_all (gw_G ca hs rt wd ob ln kd qt (co_df rt wd ob ln kd qt) (co_mk rt wd ob ln qt) fd2 fc2 oc cn) H := hP
          have hD : va_D (gx_A hs 10) (gw_G ca hs rt wd ob ln kd qt (co_df rt wd ob ln kd qt) (co_mk rt wd ob ln qt) fd2 fc2 oc cn) := hD
          refine hret 50 ls _ _ _ d_G_lookAtMarkedObjects_50 hP hS ?_ ?_
          · exact gw_G_adr.trans gw_G_adr.symm
          · exact ⟨rfl, _, _, rfl⟩
        · skip
          refine lv_aload_n hx hb d_G_lookAtMarkedObjects_17 rfl (lv_at hl 0 rfl) ?_
          refine va_get (D := D) (ci := 0) (v := .ref (hs 9)) (C := R_G) (T := F_G) (N := 12) hx hb ht in_G hown hK hP 0 rfl rfl 8 (by decide) (ht _ wm_63) (fun _ h9 => h9) rfl d_G_lookAtMarkedObjects_18 ?_
          refine lv_iload_n hx hb d_G_lookAtMarkedObjects_21 rfl (lv_at hl 1 rfl) ?_
          refine nx_iald hx hb hK hP 9 8 nI fd2 rfl rfl i (by omega) (by decide) d_G_lookAtMarkedObjects_22 ?_
          have hmk := hfi2.2.1 i h14
          obtain ⟨hq1, hq2, hq3⟩ := hfi2.1 _ hmk
          have hal := (iv_st hov hq1 hq3).2.2.1
          have hrc : mk_r rt wd ob ln qt (fd2 i) := by
            obtain ⟨w, hw, e⟩ := (hmi2.1 _).mp hmk
            exact mk_rc rt wd ob ln qt w _ (hsn2 w hw) e
          refine lv_istore_n (lv' := [(2, .int (nI (fd2 i))), (0, .ref (hs 0)), (1, .int (nI i))]) hx hb d_G_lookAtMarkedObjects_23 rfl hl (by decide) rfl (fun ls hl => ?_)
          refine lv_aload_n hx hb d_G_lookAtMarkedObjects_24 rfl (lv_at hl 1 rfl) ?_
          refine va_get (D := D) (ci := 0) (v := .ref (hs 7)) (C := R_G) (T := F_G) (N := 12) hx hb ht in_G hown hK hP 0 rfl rfl 6 (by decide) (ht _ wm_61) (fun _ h9 => h9) rfl d_G_lookAtMarkedObjects_25 ?_
          refine lv_iload_n hx hb d_G_lookAtMarkedObjects_28 rfl (lv_at hl 0 rfl) ?_
          refine nx_zald hx hb hK hP 7 6 zb_e qt rfl rfl (fd2 i) (by omega) (by decide) d_G_lookAtMarkedObjects_29 ?_
          refine nx_if_ne_b (tgt := 44) hx hb d_G_lookAtMarkedObjects_30 (by decide) (fun h30 => ?_) (fun h30 => ?_)
          · skip
            refine lv_iinc (k := 2) (v := nI (i + 1)) (lv' := [(1, .int (nI (i + 1))), (2, .int (nI (fd2 i))), (0, .ref (hs 0))]) hx hb d_G_lookAtMarkedObjects_44 hl rfl (nx_inc1 _) (by decide) rfl (fun ls hl => ?_)
            refine lv_goto (tgt := 2) hx hb d_G_lookAtMarkedObjects_47 (by decide) ?_
            exact ih2 _ (by omega) (i + 1) (df2) (mk2) (fd2) (fc2) (P2) _ _ _ rfl (by omega) (hmi2) (hfi2) (hsn2) (hrt2) (fun j hj hq t ht => by
                by_cases e : j = i
                · subst e
                  rw [h30] at hq
                  cases hq
                · exact hpr2 j (by omega) hq t ht) (lv_sub hl [2, 0] rfl) hP hD hS
          · skip
            refine lv_aload_n hx hb d_G_lookAtMarkedObjects_33 rfl (lv_at hl 1 rfl) ?_
            refine lv_iload_n hx hb d_G_lookAtMarkedObjects_34 rfl (lv_at hl 0 rfl) ?_
            refine lv_aload_n hx hb d_G_lookAtMarkedObjects_35 rfl (lv_at hl 1 rfl) ?_
            refine va_get (D := D) (ci := 0) (v := .ref (hs 6)) (C := R_G) (T := F_G) (N := 12) hx hb ht in_G hown hK hP 0 rfl rfl 5 (by decide) (ht _ wm_60) (fun _ h9 => h9) rfl d_G_lookAtMarkedObjects_36 ?_
            refine lv_iload_n hx hb d_G_lookAtMarkedObjects_39 rfl (lv_at hl 0 rfl) ?_
            refine nx_iald hx hb hK hP 6 5 nI ln rfl rfl (fd2 i) (by omega) (by decide) d_G_lookAtMarkedObjects_40 ?_
            refine gx_cM (n := 2) (q0 := 0) (ci := 0) (q := (R_G, F_G, 12)) (C := R_G) (own := R_G) (As := [.int (nI (fd2 i)), .int (nI (ln (fd2 i)))]) (rest := []) ⟨hx, hb, hml, hown, ht⟩ hg_all (c_G_lookAtWords l D ca hs (rt) (wd) (ob) (ln) (kd) (qt) (df2) (mk2) (fd2) (fc2) (oc) (cn) hov hk P2 hmi2 hfi2 (fd2 i) (ln (fd2 i)) hal) wm_122 wm_123 wm_7 wm_34 wm_124 ⟨rfl, by decide, by decide, by decide +kernel⟩ rfl ⟨rfl, rfl⟩ ⟨by decide, by decide⟩ ⟨by decide, by decide⟩ hK hP hD hS (fun _ h => h) rfl rfl rfl hl.1 rfl (Nat.le_of_ble_eq_true rfl) d_G_lookAtMarkedObjects_41 (fun v w' H locs hZ hP hD hS _ _ => ?_)
            obtain ⟨rfl, df3, mk3, fd3, fc3, rfl, hmi3, hfi3, hle3, hfd3⟩ := hZ
            have hP : va_P D cl_all (gw_G ca hs rt wd ob ln kd qt df3 mk3 fd3 fc3 oc cn) H := hP
            have hD : va_D (gx_A hs 10) (gw_G ca hs rt wd ob ln kd qt df3 mk3 fd3 fc3 oc cn) := hD
            refine lv_iinc (k := 2) (v := nI (i + 1)) (lv' := [(1, .int (nI (i + 1))), (2, .int (nI (fd2 i))), (0, .ref (hs 0))]) hx hb d_G_lookAtMarkedObjects_44 hl rfl (nx_inc1 _) (by decide) rfl (fun ls hl => ?_)
            refine lv_goto (tgt := 2) hx hb d_G_lookAtMarkedObjects_47 (by decide) ?_
            exact ih2 _ (by omega) (i + 1) (df3) (mk3) (fd3) (fc3) (fun v => P2 v ∨ ∃ j, j < ln (fd2 i) ∧ v = wd (fd2 i + j)) _ _ _ rfl (by omega) (hmi3) (hfi3) (fun w hw => hw.elim (hsn2 w) (fun ⟨j, j1, j2⟩ => Or.inr ⟨fd2 i, j, hrc, h30, j1, j2⟩)) (fun r hr => Or.inl (hrt2 r hr)) (fun j hj hq t ht => by
                have hjc : j < fc2 := by omega
                rw [hfd3 j hjc] at hq ht ⊢
                by_cases e : j = i
                · subst e
                  exact Or.inr ⟨t, ht, rfl⟩
                · exact Or.inl (hpr2 j (by omega) hq t ht)) (lv_sub hl [2, 0] rfl) hP hD hS
  exact key2 _ (0) (df) (mk) (fd) (fc) (P) _ _ _ rfl (Nat.zero_le _) (hmi) (hfi) (hsn) (hrt) (fun j hj => absurd hj (Nat.not_lt_zero _)) (lv_sub hl [1, 0] rfl) hP hD hS

set_option maxHeartbeats 4000000 in
set_option maxRecDepth 100000 in
theorem c_G_giveUp (l : Launch) (D : va_G) (ca : Nat → ClassId) (hs : Nat → Nat) (rt : Nat → Int32) (wd : Nat → Int32) (ob : Nat → Nat) (ln : Nat → Nat) (kd : Nat → Nat) (qt : Nat → Bool) (df : Nat → Bool) (mk : Nat → Bool) (fd : Nat → Nat) (fc : Nat) (oc : Nat) (cn : Nat) (a0 lz : Nat) (hal : a0 + lz ≤ 512) (hoc : 1 ≤ oc) : Met l y_G_giveUp (Cond.code y_G_giveUp b_G_giveUp 3 none :: wa_all) (rm_d 2) (va_Pc [.ref (hs 0), .int (nI a0), .int (nI lz)] (gx_I D cl_all (ty_G ca) (gw_G ca hs rt wd ob ln kd qt df mk fd fc oc cn))) (gx_Q D cl_all (gx_A hs 10) (gw_G ca hs rt wd ob ln kd qt df mk fd fc oc cn) (fun v w' => v = none ∧ w' = gw_G ca hs rt (fun j => if a0 ≤ j ∧ j < a0 + lz then 0 else wd j) (fun j => if a0 ≤ j ∧ j < a0 + lz then 0 else ob j) ln kd qt df mk fd fc (oc - 1) cn)) 0 0 (gx_A hs 10) := by
  refine gx_mutV (by decide) (Nat.le_of_ble_eq_true rfl) gw_G_in ?_
  intro p e s m args below meth c ls Q hx hb hml ht hown hret hP hK hD hS hl
  have hl : lv_has ls 3 [(0, .ref (hs 0)), (1, .int (nI a0)), (2, .int (nI lz))] := hl
  have hown : s.vm.findClass R_G = some m.cls := hown
  have hP : va_P D cl_all (gw_G ca hs rt wd ob ln kd qt df mk fd fc oc cn) s.heap := hP
  refine lv_aload_n hx hb d_G_giveUp_0 rfl (lv_at hl 0 rfl) ?_
  refine va_get (D := D) (ci := 0) (v := .ref (hs 4)) (C := R_G) (T := F_G) (N := 12) hx hb ht in_G hown hK hP 0 rfl rfl 3 (by decide) (ht _ wm_58) (fun _ h9 => h9) rfl d_G_giveUp_1 ?_
  refine lv_iload_n hx hb d_G_giveUp_4 rfl (lv_at hl 1 rfl) ?_
  refine lv_iload_n hx hb d_G_giveUp_5 rfl (lv_at hl 1 rfl) ?_
  refine lv_iload_n hx hb d_G_giveUp_6 rfl (lv_at hl 2 rfl) ?_
  refine nx_iadd hx hb d_G_giveUp_7 ?_
  refine lv_iconst (v := nI 0) hx hb d_G_giveUp_8 (by decide +kernel) ?_
  refine gx_cF (n := 4) (q0 := 4) (As := [.ref (hs 4), .int (nI a0), .int (nI (a0 + lz)), .int (nI 0)]) (rest := []) ⟨hx, hb, hml, hown, ht⟩ hg_all (c_A_fill3 l D (hs 4) 512 (ca 4) (wd) (fun j => if a0 ≤ j ∧ j < a0 + lz then 0 else wd j) (a0) (a0 + lz) (nI 0) (by omega) (by omega) (by omega) (fun j hj => by
      show (if a0 ≤ j ∧ j < a0 + lz then (0 : Int32) else wd j) = _
      by_cases q : a0 ≤ j ∧ j < a0 + lz
      · rw [if_pos q, if_pos q]
        exact nI_0.symm
      · rw [if_neg q, if_neg q])) wm_131 wm_132 wm_35 wm_133 ⟨by decide, by decide, by decide +kernel⟩ rfl ⟨rfl, rfl⟩ ⟨by decide, by decide⟩ ⟨by decide, by decide⟩ hK hP hD hS rfl 3 rfl hl.1 rfl (Nat.le_of_ble_eq_true rfl) d_G_giveUp_9 (fun H locs hP hD hS => ?_)
  have hP : va_P D cl_all (gw_G ca hs rt (fun j => if a0 ≤ j ∧ j < a0 + lz then 0 else wd j) ob ln kd qt df mk fd fc oc cn) H := hP
  have hD : va_D (gx_A hs 10) (gw_G ca hs rt (fun j => if a0 ≤ j ∧ j < a0 + lz then 0 else wd j) ob ln kd qt df mk fd fc oc cn) := hD
  refine lv_aload_n hx hb d_G_giveUp_12 rfl (lv_at hl 0 rfl) ?_
  refine va_get (D := D) (ci := 0) (v := .ref (hs 5)) (C := R_G) (T := F_G) (N := 12) hx hb ht in_G hown hK hP 0 rfl rfl 4 (by decide) (ht _ wm_59) (fun _ h9 => h9) rfl d_G_giveUp_13 ?_
  refine lv_iload_n hx hb d_G_giveUp_16 rfl (lv_at hl 1 rfl) ?_
  refine lv_iload_n hx hb d_G_giveUp_17 rfl (lv_at hl 1 rfl) ?_
  refine lv_iload_n hx hb d_G_giveUp_18 rfl (lv_at hl 2 rfl) ?_
  refine nx_iadd hx hb d_G_giveUp_19 ?_
  refine lv_iconst (v := -1) hx hb d_G_giveUp_20 (by decide +kernel) ?_
  refine gx_cF (n := 4) (q0 := 5) (As := [.ref (hs 5), .int (nI a0), .int (nI (a0 + lz)), .int (-1)]) (rest := []) ⟨hx, hb, hml, hown, ht⟩ hg_all (c_A_fill3 l D (hs 5) 512 (ca 5) (fun j => zs_e ((ob) j)) (fun j => zs_e ((fun j => if a0 ≤ j ∧ j < a0 + lz then 0 else ob j) j)) (a0) (a0 + lz) (-1) (by omega) (by omega) (by omega) (fun j hj => by
      show zs_e (if a0 ≤ j ∧ j < a0 + lz then 0 else ob j) = _
      by_cases q : a0 ≤ j ∧ j < a0 + lz
      · rw [if_pos q, if_pos q]
        exact zs_0
      · rw [if_neg q, if_neg q])) wm_131 wm_132 wm_35 wm_133 ⟨by decide, by decide, by decide +kernel⟩ rfl ⟨rfl, rfl⟩ ⟨by decide, by decide⟩ ⟨by decide, by decide⟩ hK hP hD hS rfl 4 rfl hl.1 rfl (Nat.le_of_ble_eq_true rfl) d_G_giveUp_21 (fun H locs hP hD hS => ?_)
  have hP : va_P D cl_all (gw_G ca hs rt (fun j => if a0 ≤ j ∧ j < a0 + lz then 0 else wd j) (fun j => if a0 ≤ j ∧ j < a0 + lz then 0 else ob j) ln kd qt df mk fd fc oc cn) H := hP
  have hD : va_D (gx_A hs 10) (gw_G ca hs rt (fun j => if a0 ≤ j ∧ j < a0 + lz then 0 else wd j) (fun j => if a0 ≤ j ∧ j < a0 + lz then 0 else ob j) ln kd qt df mk fd fc oc cn) := hD
  refine lv_aload_n hx hb d_G_giveUp_24 rfl (lv_at hl 0 rfl) ?_
  refine lv_dup hx hb d_G_giveUp_25 rfl ?_
  refine va_get (D := D) (ci := 0) (v := .int (nI oc)) (C := R_G) (T := F_G) (N := 12) hx hb ht in_G hown hK hP 0 rfl rfl 10 (by decide) (ht _ wm_65) (fun _ h9 => h9) rfl d_G_giveUp_26 ?_
  refine lv_iconst (v := nI 1) hx hb d_G_giveUp_29 (by decide +kernel) ?_
  refine nx_isub hx hb d_G_giveUp_30 (by omega) ?_
  refine va_put (D := D) (ci := 0) (v := .int (nI (oc - 1))) (ty := .int) (C := R_G) (T := F_G) (N := 12) hx hb ht in_G t_G t_G_ok n_G_ne hown hK hP hD hS 0 rfl rfl 10 (by decide) (ht _ wm_65) (fun _ h9 => h9) rfl (by decide +kernel) rfl rfl (Nat.le_of_ble_eq_true rfl) d_G_giveUp_31 (fun H locs hP hD hS => ?_)
  have hP : va_P D cl_all (gw_G ca hs rt (fun j => if a0 ≤ j ∧ j < a0 + lz then 0 else wd j) (fun j => if a0 ≤ j ∧ j < a0 + lz then 0 else ob j) ln kd qt df mk fd fc (oc - 1) cn) H := hP
  have hD : va_D (gx_A hs 10) (gw_G ca hs rt (fun j => if a0 ≤ j ∧ j < a0 + lz then 0 else wd j) (fun j => if a0 ≤ j ∧ j < a0 + lz then 0 else ob j) ln kd qt df mk fd fc (oc - 1) cn) := hD
  refine hret 34 ls _ _ _ d_G_giveUp_34 hP hS ?_ ?_
  · exact gw_G_adr.trans gw_G_adr.symm
  · exact ⟨rfl, rfl⟩

set_option maxHeartbeats 4000000 in
set_option maxRecDepth 100000 in
theorem c_G_giveUpUnmarkedObjects (l : Launch) (D : va_G) (ca : Nat → ClassId) (hs : Nat → Nat) (rt : Nat → Int32) (wd : Nat → Int32) (ob : Nat → Nat) (ln : Nat → Nat) (kd : Nat → Nat) (qt : Nat → Bool) (df : Nat → Bool) (mk : Nat → Bool) (fd : Nat → Nat) (fc : Nat) (oc : Nat) (cn : Nat) (hov : iv_o ob ln kd) (hocv : oc = iv_c ob) : Met l y_G_giveUpUnmarkedObjects (Cond.code y_G_giveUpUnmarkedObjects b_G_giveUpUnmarkedObjects 2 none :: wa_all) (rm_d 3) (va_Pc [.ref (hs 0)] (gx_I D cl_all (ty_G ca) (gw_G ca hs rt wd ob ln kd qt df mk fd fc oc cn))) (gx_Q D cl_all (gx_A hs 10) (gw_G ca hs rt wd ob ln kd qt df mk fd fc oc cn) (fun v w' => v = none ∧ w' = gw_G ca hs rt (co_wd wd ob mk) (co_ob ob mk) ln kd qt df mk fd fc (iv_c (co_ob ob mk)) cn)) 0 0 (gx_A hs 10) := by
  refine gx_mutV (by decide) (Nat.le_of_ble_eq_true rfl) gw_G_in ?_
  intro p e s m args below meth c ls Q hx hb hml ht hown hret hP hK hD hS hl
  have hl : lv_has ls 2 [(0, .ref (hs 0))] := hl
  have hown : s.vm.findClass R_G = some m.cls := hown
  have hP : va_P D cl_all (gw_G ca hs rt wd ob ln kd qt df mk fd fc oc cn) s.heap := hP
  refine lv_iconst (v := nI 0) hx hb d_G_giveUpUnmarkedObjects_0 (by decide +kernel) ?_
  refine lv_istore_n (lv' := [(1, .int (nI 0)), (0, .ref (hs 0))]) hx hb d_G_giveUpUnmarkedObjects_1 rfl hl (by decide) rfl (fun ls hl => ?_)
  have key2 : ∀ (n9 : Nat) (n : Nat) (wd2 : Nat → Int32) (ob2 : Nat → Nat) (oc2 : Nat) (H : Heap) (locs : List Loc) (ls : Array Slot), 512 - n = n9 → n ≤ 512 → (∀ i, i < 512 → wd2 i = gu_wd wd ob mk n i) → (∀ i, i < 512 → ob2 i = gu_ob ob mk n i) → oc2 = iv_c (gu_ob ob mk n) → lv_has ls 2 [(0, .ref (hs 0)), (1, .int (nI n))] → va_P D cl_all (gw_G ca hs rt wd2 ob2 ln kd qt df mk fd fc oc2 cn) H → va_D (gx_A hs 10) (gw_G ca hs rt wd2 ob2 ln kd qt df mk fd fc oc2 cn) → va_S (gx_A hs 10) s.heap H locs → W p l e (rm_d 3) s m args below meth c H locs 0 0 Q (F0 m 2 ls []) := by
    intro n9
    induction n9 using Nat.strongRecOn with
    | ind n9 ih2 =>
      intro n wd2 ob2 oc2 H locs ls hn2 hn hwd2 hob2 hoc2 hl hP hD hS
      refine lv_iload_n hx hb d_G_giveUpUnmarkedObjects_2 rfl (lv_at hl 1 rfl) ?_
      refine lv_sipush (v := nI 512) hx hb d_G_giveUpUnmarkedObjects_3 (by decide +kernel) ?_
      refine nx_icmp_ge (tgt := 45) hx hb d_G_giveUpUnmarkedObjects_6 (by decide) (by omega) (by omega) (fun h6 => ?_) (fun h6 => ?_)
      · skip
        have en : n = 512 := by omega
        subst en
        have hP := gx_ext hP (q0 := 5) (g := fun j => zs_e ((co_ob ob mk) j)) rfl (fun j hj => by rw [hob2 j hj, gu_eob hov hj])
        have hD := gx_Dadr hD (w' := gw_G ca hs rt wd2 (co_ob ob mk) ln kd qt df mk fd fc oc2 cn) (gw_G_adr.trans gw_G_adr.symm)
        have hP : va_P D cl_all (gw_G ca hs rt wd2 (co_ob ob mk) ln kd qt df mk fd fc oc2 cn) H := hP
        have hD : va_D (gx_A hs 10) (gw_G ca hs rt wd2 (co_ob ob mk) ln kd qt df mk fd fc oc2 cn) := hD
        have hP := gx_ext hP (q0 := 4) (g := co_wd wd ob mk) rfl (fun j hj => by rw [hwd2 j hj, gu_ewd hov hj])
        have hD := gx_Dadr hD (w' := gw_G ca hs rt (co_wd wd ob mk) (co_ob ob mk) ln kd qt df mk fd fc oc2 cn) (gw_G_adr.trans gw_G_adr.symm)
        have hP : va_P D cl_all (gw_G ca hs rt (co_wd wd ob mk) (co_ob ob mk) ln kd qt df mk fd fc oc2 cn) H := hP
        have hD : va_D (gx_A hs 10) (gw_G ca hs rt (co_wd wd ob mk) (co_ob ob mk) ln kd qt df mk fd fc oc2 cn) := hD
        rw [gu_ce hov] at hoc2
        subst hoc2
        have hP : va_P D cl_all (gw_G ca hs rt (co_wd wd ob mk) (co_ob ob mk) ln kd qt df mk fd fc (iv_c (co_ob ob mk)) cn) H := hP
        have hD : va_D (gx_A hs 10) (gw_G ca hs rt (co_wd wd ob mk) (co_ob ob mk) ln kd qt df mk fd fc (iv_c (co_ob ob mk)) cn) := hD
        refine hret 45 ls _ _ _ d_G_giveUpUnmarkedObjects_45 hP hS ?_ ?_
        · exact gw_G_adr.trans gw_G_adr.symm
        · exact ⟨rfl, rfl⟩
      · skip
        refine lv_aload_n hx hb d_G_giveUpUnmarkedObjects_9 rfl (lv_at hl 0 rfl) ?_
        refine va_get (D := D) (ci := 0) (v := .ref (hs 5)) (C := R_G) (T := F_G) (N := 12) hx hb ht in_G hown hK hP 0 rfl rfl 4 (by decide) (ht _ wm_59) (fun _ h9 => h9) rfl d_G_giveUpUnmarkedObjects_10 ?_
        refine lv_iload_n hx hb d_G_giveUpUnmarkedObjects_13 rfl (lv_at hl 1 rfl) ?_
        refine nx_iald hx hb hK hP 5 4 zs_e ob2 rfl rfl n (by omega) (by decide) d_G_giveUpUnmarkedObjects_14 ?_
        refine lv_iload_n hx hb d_G_giveUpUnmarkedObjects_15 rfl (lv_at hl 1 rfl) ?_
        refine lv_icmp_ne (tgt := 39) hx hb d_G_giveUpUnmarkedObjects_16 (by decide) (fun h16 => ?_) (fun h16 => ?_)
        · skip
          have h16 : ¬ ob n = n + 1 := fun q => h16 (by rw [hob2 n h6, gu_at.mpr q]; exact zs_s n)
          refine lv_iinc (k := 1) (v := nI (n + 1)) (lv' := [(1, .int (nI (n + 1))), (0, .ref (hs 0))]) hx hb d_G_giveUpUnmarkedObjects_39 hl rfl (nx_inc1 _) (by decide) rfl (fun ls hl => ?_)
          refine lv_goto (tgt := 2) hx hb d_G_giveUpUnmarkedObjects_42 (by decide) ?_
          exact ih2 _ (by omega) (n + 1) (wd2) (ob2) (oc2) _ _ _ rfl (by omega) (fun i hi => by rw [gu_nwd hov (fun q => h16 q.1) hi, hwd2 i hi]) (fun i hi => by rw [gu_nob hov (fun q => h16 q.1) hi, hob2 i hi]) (by rw [gu_cn hov (fun q => h16 q.1), hoc2]) (lv_sub hl [1, 0] rfl) hP hD hS
        · skip
          have h16 : ob n = n + 1 := by
            rw [hob2 n h6] at h16
            have hlt : gu_ob ob mk n n < 513 := by
              have := iv_lt hov h6
              unfold gu_ob
              split <;> omega
            exact gu_at.mp ((zs_eq (by omega) (by omega)).mp h16)
          refine lv_aload_n hx hb d_G_giveUpUnmarkedObjects_19 rfl (lv_at hl 0 rfl) ?_
          refine va_get (D := D) (ci := 0) (v := .ref (hs 8)) (C := R_G) (T := F_G) (N := 12) hx hb ht in_G hown hK hP 0 rfl rfl 7 (by decide) (ht _ wm_62) (fun _ h9 => h9) rfl d_G_giveUpUnmarkedObjects_20 ?_
          refine lv_iload_n hx hb d_G_giveUpUnmarkedObjects_23 rfl (lv_at hl 1 rfl) ?_
          refine nx_zald hx hb hK hP 8 7 zb_e mk rfl rfl n (by omega) (by decide) d_G_giveUpUnmarkedObjects_24 ?_
          refine nx_if_ne_b (tgt := 39) hx hb d_G_giveUpUnmarkedObjects_25 (by decide) (fun h25 => ?_) (fun h25 => ?_)
          · skip
            refine lv_iinc (k := 1) (v := nI (n + 1)) (lv' := [(1, .int (nI (n + 1))), (0, .ref (hs 0))]) hx hb d_G_giveUpUnmarkedObjects_39 hl rfl (nx_inc1 _) (by decide) rfl (fun ls hl => ?_)
            refine lv_goto (tgt := 2) hx hb d_G_giveUpUnmarkedObjects_42 (by decide) ?_
            exact ih2 _ (by omega) (n + 1) (wd2) (ob2) (oc2) _ _ _ rfl (by omega) (fun i hi => by rw [gu_nwd hov (fun q => by rw [h25] at q; cases q.2) hi, hwd2 i hi]) (fun i hi => by rw [gu_nob hov (fun q => by rw [h25] at q; cases q.2) hi, hob2 i hi]) (by rw [gu_cn hov (fun q => by rw [h25] at q; cases q.2), hoc2]) (lv_sub hl [1, 0] rfl) hP hD hS
          · skip
            have hal := (iv_st hov h6 h16).2.2.1
            have hcy := gu_cy hov h6 h16 h25
            have hoc1 : 1 ≤ oc2 := by omega
            refine lv_aload_n hx hb d_G_giveUpUnmarkedObjects_28 rfl (lv_at hl 0 rfl) ?_
            refine lv_iload_n hx hb d_G_giveUpUnmarkedObjects_29 rfl (lv_at hl 1 rfl) ?_
            refine lv_aload_n hx hb d_G_giveUpUnmarkedObjects_30 rfl (lv_at hl 0 rfl) ?_
            refine va_get (D := D) (ci := 0) (v := .ref (hs 6)) (C := R_G) (T := F_G) (N := 12) hx hb ht in_G hown hK hP 0 rfl rfl 5 (by decide) (ht _ wm_60) (fun _ h9 => h9) rfl d_G_giveUpUnmarkedObjects_31 ?_
            refine lv_iload_n hx hb d_G_giveUpUnmarkedObjects_34 rfl (lv_at hl 1 rfl) ?_
            refine nx_iald hx hb hK hP 6 5 nI ln rfl rfl n (by omega) (by decide) d_G_giveUpUnmarkedObjects_35 ?_
            refine gx_cM (n := 2) (q0 := 0) (ci := 0) (q := (R_G, F_G, 12)) (C := R_G) (own := R_G) (As := [.int (nI n), .int (nI (ln n))]) (rest := []) ⟨hx, hb, hml, hown, ht⟩ hg_all (c_G_giveUp l D ca hs (rt) (wd2) (ob2) (ln) (kd) (qt) (df) (mk) (fd) (fc) (oc2) (cn) (n) (ln n) hal hoc1) wm_128 wm_129 wm_9 wm_34 wm_130 ⟨rfl, by decide, by decide, by decide +kernel⟩ rfl ⟨rfl, rfl⟩ ⟨by decide, by decide⟩ ⟨by decide, by decide⟩ hK hP hD hS (fun _ h => h) rfl rfl rfl hl.1 rfl (Nat.le_of_ble_eq_true rfl) d_G_giveUpUnmarkedObjects_36 (fun v w' H locs hZ hP hD hS _ _ => ?_)
            obtain ⟨rfl, rfl⟩ := hZ
            have hP : va_P D cl_all (gw_G ca hs rt (fun j => if n ≤ j ∧ j < n + ln n then 0 else wd2 j) (fun j => if n ≤ j ∧ j < n + ln n then 0 else ob2 j) ln kd qt df mk fd fc (oc2 - 1) cn) H := hP
            have hD : va_D (gx_A hs 10) (gw_G ca hs rt (fun j => if n ≤ j ∧ j < n + ln n then 0 else wd2 j) (fun j => if n ≤ j ∧ j < n + ln n then 0 else ob2 j) ln kd qt df mk fd fc (oc2 - 1) cn) := hD
            refine lv_iinc (k := 1) (v := nI (n + 1)) (lv' := [(1, .int (nI (n + 1))), (0, .ref (hs 0))]) hx hb d_G_giveUpUnmarkedObjects_39 hl rfl (nx_inc1 _) (by decide) rfl (fun ls hl => ?_)
            refine lv_goto (tgt := 2) hx hb d_G_giveUpUnmarkedObjects_42 (by decide) ?_
            exact ih2 _ (by omega) (n + 1) (fun j => if n ≤ j ∧ j < n + ln n then 0 else wd2 j) (fun j => if n ≤ j ∧ j < n + ln n then 0 else ob2 j) (oc2 - 1) _ _ _ rfl (by omega) (fun i hi => by rw [gu_ywd hov h6 h16 h25 hi, hwd2 i hi]) (fun i hi => by rw [gu_yob hov h6 h16 h25 hi, hob2 i hi]) (by omega) (lv_sub hl [1, 0] rfl) hP hD hS
  exact key2 _ (0) (wd) (ob) (oc) _ _ _ rfl (Nat.zero_le _) (fun i _ => (gu_w0 wd ob mk i).symm) (fun i _ => (gu_0 ob mk i).symm) (by rw [gu_c0]; exact hocv) (lv_sub hl [1, 0] rfl) hP hD hS

set_option maxHeartbeats 4000000 in
set_option maxRecDepth 100000 in
theorem c_G_freeBlocksWithoutObjects (l : Launch) (D : va_G) (ca : Nat → ClassId) (hs : Nat → Nat) (rt : Nat → Int32) (wd : Nat → Int32) (ob : Nat → Nat) (ln : Nat → Nat) (kd : Nat → Nat) (qt : Nat → Bool) (df : Nat → Bool) (mk : Nat → Bool) (fd : Nat → Nat) (fc : Nat) (oc : Nat) (cn : Nat) (ho : ∀ i, i < 512 → ob i < 513) : Met l y_G_freeBlocksWithoutObjects (Cond.code y_G_freeBlocksWithoutObjects b_G_freeBlocksWithoutObjects 2 none :: wa_all) (rm_d 1) (va_Pc [.ref (hs 0)] (gx_I D cl_all (ty_G ca) (gw_G ca hs rt wd ob ln kd qt df mk fd fc oc cn))) (gx_Q D cl_all (gx_A hs 10) (gw_G ca hs rt wd ob ln kd qt df mk fd fc oc cn) (fun v w' => v = none ∧ w' = gw_G ca hs rt wd ob ln (co_kd kd ob) qt df mk fd fc oc cn)) 0 0 (gx_A hs 10) := by
  refine gx_mutV (by decide) (Nat.le_of_ble_eq_true rfl) gw_G_in ?_
  intro p e s m args below meth c ls Q hx hb hml ht hown hret hP hK hD hS hl
  have hl : lv_has ls 2 [(0, .ref (hs 0))] := hl
  have hown : s.vm.findClass R_G = some m.cls := hown
  have hP : va_P D cl_all (gw_G ca hs rt wd ob ln kd qt df mk fd fc oc cn) s.heap := hP
  refine lv_iconst (v := nI 0) hx hb d_G_freeBlocksWithoutObjects_0 (by decide +kernel) ?_
  refine lv_istore_n (lv' := [(1, .int (nI 0)), (0, .ref (hs 0))]) hx hb d_G_freeBlocksWithoutObjects_1 rfl hl (by decide) rfl (fun ls hl => ?_)
  have key2 : ∀ (n9 : Nat) (b : Nat) (kd2 : Nat → Nat) (H : Heap) (locs : List Loc) (ls : Array Slot), 16 - b = n9 → b ≤ 16 → (∀ j, j < 16 → kd2 j = if j < b ∧ cl_b (co_br ob j) = true then 0 else kd j) → lv_has ls 2 [(0, .ref (hs 0)), (1, .int (nI b))] → va_P D cl_all (gw_G ca hs rt wd ob ln kd2 qt df mk fd fc oc cn) H → va_D (gx_A hs 10) (gw_G ca hs rt wd ob ln kd2 qt df mk fd fc oc cn) → va_S (gx_A hs 10) s.heap H locs → W p l e (rm_d 1) s m args below meth c H locs 0 0 Q (F0 m 2 ls []) := by
    intro n9
    induction n9 using Nat.strongRecOn with
    | ind n9 ih2 =>
      intro b kd2 H locs ls hn2 hb16 hkd2 hl hP hD hS
      have hfw : fw_n ob b ≤ 32 := cn_le _ _
      refine lv_iload_n hx hb d_G_freeBlocksWithoutObjects_2 rfl (lv_at hl 1 rfl) ?_
      refine lv_bipush (v := nI 16) hx hb d_G_freeBlocksWithoutObjects_3 (by decide +kernel) ?_
      refine nx_icmp_ge (tgt := 31) hx hb d_G_freeBlocksWithoutObjects_5 (by decide) (by omega) (by omega) (fun h5 => ?_) (fun h5 => ?_)
      · skip
        have hP := gx_ext hP (q0 := 2) (g := fun j => nI ((co_kd kd ob) j)) rfl (fun j hj => by
            rw [hkd2 j hj]
            unfold co_kd
            by_cases q : cl_b (co_br ob j) = true
            · rw [if_pos q, if_pos ⟨by omega, q⟩]
            · rw [if_neg q, if_neg (fun z => q z.2)])
        have hD := gx_Dadr hD (w' := gw_G ca hs rt wd ob ln (co_kd kd ob) qt df mk fd fc oc cn) (gw_G_adr.trans gw_G_adr.symm)
        have hP : va_P D cl_all (gw_G ca hs rt wd ob ln (co_kd kd ob) qt df mk fd fc oc cn) H := hP
        have hD : va_D (gx_A hs 10) (gw_G ca hs rt wd ob ln (co_kd kd ob) qt df mk fd fc oc cn) := hD
        refine hret 31 ls _ _ _ d_G_freeBlocksWithoutObjects_31 hP hS ?_ ?_
        · exact gw_G_adr.trans gw_G_adr.symm
        · exact ⟨rfl, rfl⟩
      · skip
        refine lv_aload_n hx hb d_G_freeBlocksWithoutObjects_8 rfl (lv_at hl 0 rfl) ?_
        refine lv_iload_n hx hb d_G_freeBlocksWithoutObjects_9 rfl (lv_at hl 1 rfl) ?_
        refine gx_cV (n := 1) (q0 := 0) (ci := 0) (q := (R_G, F_G, 12)) (C := R_G) (own := R_G) (As := [.int (nI b)]) (rest := []) ⟨hx, hb, hml, hown, ht⟩ hg_all (c_G_wordsInNoObject l D ca hs (rt) (wd) (ob) (ln) (kd2) (qt) (df) (mk) (fd) (fc) (oc) (cn) (b) (by omega) (ho)) wm_205 wm_206 wm_11 wm_34 wm_207 ⟨rfl, by decide, by decide, by decide +kernel⟩ rfl ⟨rfl, rfl⟩ ⟨by decide, by decide⟩ ⟨by decide, by decide⟩ hK hP hD rfl rfl rfl hl.1 rfl (Nat.le_of_ble_eq_true rfl) d_G_freeBlocksWithoutObjects_10 ?_
        refine lv_bipush (v := nI 32) hx hb d_G_freeBlocksWithoutObjects_13 (by decide +kernel) ?_
        refine nx_icmp_ne (tgt := 25) hx hb d_G_freeBlocksWithoutObjects_15 (by decide) (by omega) (by omega) (fun h15 => ?_) (fun h15 => ?_)
        · skip
          refine lv_iinc (k := 1) (v := nI (b + 1)) (lv' := [(1, .int (nI (b + 1))), (0, .ref (hs 0))]) hx hb d_G_freeBlocksWithoutObjects_25 hl rfl (nx_inc1 _) (by decide) rfl (fun ls hl => ?_)
          refine lv_goto (tgt := 2) hx hb d_G_freeBlocksWithoutObjects_28 (by decide) ?_
          exact ih2 _ (by omega) (b + 1) (kd2) _ _ _ rfl (by omega) (fun j hj => by
              rw [hkd2 j hj]
              by_cases q : j < b ∧ cl_b (co_br ob j) = true
              · rw [if_pos q, if_pos ⟨by omega, q.2⟩]
              · rw [if_neg q, if_neg (fun z => ?_)]
                by_cases e : j = b
                · subst e
                  exact h15 (fw_32.mpr (cl_t.mp z.2))
                · exact q ⟨by omega, z.2⟩) (lv_sub hl [1, 0] rfl) hP hD hS
        · skip
          refine lv_aload_n hx hb d_G_freeBlocksWithoutObjects_18 rfl (lv_at hl 0 rfl) ?_
          refine va_get (D := D) (ci := 0) (v := .ref (hs 2)) (C := R_G) (T := F_G) (N := 12) hx hb ht in_G hown hK hP 0 rfl rfl 1 (by decide) (ht _ wm_56) (fun _ h9 => h9) rfl d_G_freeBlocksWithoutObjects_19 ?_
          refine lv_iload_n hx hb d_G_freeBlocksWithoutObjects_22 rfl (lv_at hl 1 rfl) ?_
          refine lv_iconst (v := nI 0) hx hb d_G_freeBlocksWithoutObjects_23 (by decide +kernel) ?_
          refine nx_iast hx hb hK hP hD hS 2 1 nI kd2 rfl rfl b 0 (by omega) (by decide) d_G_freeBlocksWithoutObjects_24 (fun H locs hP hD hS => ?_)
          have hP : va_P D cl_all (gw_G ca hs rt wd ob ln (va_up kd2 b 0) qt df mk fd fc oc cn) H := hP
          have hD : va_D (gx_A hs 10) (gw_G ca hs rt wd ob ln (va_up kd2 b 0) qt df mk fd fc oc cn) := hD
          refine lv_iinc (k := 1) (v := nI (b + 1)) (lv' := [(1, .int (nI (b + 1))), (0, .ref (hs 0))]) hx hb d_G_freeBlocksWithoutObjects_25 hl rfl (nx_inc1 _) (by decide) rfl (fun ls hl => ?_)
          refine lv_goto (tgt := 2) hx hb d_G_freeBlocksWithoutObjects_28 (by decide) ?_
          exact ih2 _ (by omega) (b + 1) (va_up kd2 b 0) _ _ _ rfl (by omega) (fun j hj => by
              by_cases e : j = b
              · rw [e, va_up_self, if_pos ⟨by omega, cl_t.mpr (fw_32.mp (by omega))⟩]
              · rw [va_up_ne _ _ e, hkd2 j hj]
                by_cases q : j < b ∧ cl_b (co_br ob j) = true
                · rw [if_pos q, if_pos ⟨by omega, q.2⟩]
                · rw [if_neg q, if_neg (fun z => q ⟨by omega, z.2⟩)]) (lv_sub hl [1, 0] rfl) hP hD hS
  exact key2 _ (0) (kd) _ _ _ rfl (Nat.zero_le _) (fun j _ => by rw [if_neg (by omega)]) (lv_sub hl [1, 0] rfl) hP hD hS

