/-! one operation, at the class and at the reference -/
def lo_H (l : Launch) (D : va_G) (ca : Nat → ClassId) (hs : Nat → Nat) (cL : ClassId) (oa : Nat) (y : MethodName) (bytes : ByteArray) (maxL : Nat) (hh : List (Nat × Nat × Nat × Nat)) (As : List Value) (w : va_W) (ov : Nat → Int64) (k r : Int32) (rt wd : Nat → Int32) (ob ln kd : Nat → Nat) (qt df : Nat → Bool) (cn : Nat) : Prop :=
  Met l y (Cond.codeWith y bytes maxL (some .int) hh :: wa_all) rm_h (va_Pc As (hq_I D ca hs cL oa w ov)) (hq_Q D hs cL oa w (fun k' w' ov' => k' = k ∧ wG ca hs rt wd ob ln kd qt df cn w' ∧ (k = 0 → ov' 0 = r.toInt64))) 1 6 (hq_A hs oa)
def lo_G (l : Launch) (D : va_G) (ca : Nat → ClassId) (hs : Nat → Nat) (y : MethodName) (bytes : ByteArray) (maxL : Nat) (ret : Option FieldType) (rm : Room) (As : List Value) (w : va_W) (v0 : Option Value) (rt wd : Nat → Int32) (ob ln kd : Nat → Nat) (qt df : Nat → Bool) (cn : Nat) : Prop :=
  Met l y (Cond.code y bytes maxL ret :: wa_all) rm (va_Pc (.ref (hs 0) :: As) (gx_I D cl_all (ty_G ca) w)) (gx_Q D cl_all (gx_A hs 10) w (fun v w' => v = v0 ∧ wG ca hs rt wd ob ln kd qt df cn w')) 0 0 (gx_A hs 10)
def lo_M (l : Launch) (D : va_G) (ca : Nat → ClassId) (gs : Nat → Nat) (y : MethodName) (bytes : ByteArray) (maxL : Nat) (ret : Option FieldType) (rm : Room) (As : List Value) (w : va_W) (v0 : Option Value) (th : Nat) (rt wd : Nat → Int32) (ob ln kd : Nat → Nat) (qt df : Nat → Bool) (cn : Nat) : Prop :=
  Met l y (Cond.code y bytes maxL ret :: wa_all) rm (va_Pc (.ref (gs 0) :: As) (gx_I D cl_all (ty_M ca) w)) (gx_Q D cl_all (gx_A gs 9) w (fun v w' => v = v0 ∧ wM ca gs rt wd ob ln kd qt df cn th w')) 0 0 (gx_A gs 9)
def lo_R (l : Launch) (D : va_G) (ca : Nat → ClassId) (hs : Nat → Nat) (cL : ClassId) (oa : Nat) (y : MethodName) (bytes : ByteArray) (maxL : Nat) (hh : List (Nat × Nat × Nat × Nat)) (As : List Value) (w : va_W) (ov : Nat → Int64) (k : Int32) (rt wd : Nat → Int32) (ob ln kd : Nat → Nat) (qt df : Nat → Bool) (cn : Nat) : Prop :=
  Met l y (Cond.codeWith y bytes maxL (some .int) hh :: wa_all) rm_h (va_Pc As (hq_I D ca hs cL oa w ov)) (hq_Q D hs cL oa w (fun k' w' ov' => k' = k ∧ wG ca hs rt wd ob ln kd qt df cn w' ∧ ov' = ov)) 1 6 (hq_A hs oa)
theorem lo_rooted (l : Launch) (htr : gt_htr l) (D : va_G) (ca : Nat → ClassId) (hs : Nat → Nat) (ca2 : Nat → ClassId) (gs : Nat → Nat) (cL : ClassId) (oa : Nat) (rt wd : Nat → Int32) (ob ln kd : Nat → Nat) (qt df : Nat → Bool) (cn : Nat) (w w2 : va_W) (th : Nat) (ov : Nat → Int64) (hG : wG ca hs rt wd ob ln kd qt df cn w) (hM : wM ca2 gs rt wd ob ln kd qt df cn th w2) (hv : iv_a ob ln kd wd (iv_c ob)) (a1 : Int32) : ∃ (k : Nat) (r : Int32) (rt' wd' : Nat → Int32) (ob' ln' kd' : Nat → Nat) (qt' df' : Nat → Bool) (cn' : Nat), k < 3 ∧ iv_a ob' ln' kd' wd' (iv_c ob') ∧ lo_H l D ca hs cL oa y_L_rooted b_L_rooted 4 [(0, 9, 12, 21)] [.ref (hs 0), .int a1, .ref oa] w ov (nI k) r rt' wd' ob' ln' kd' qt' df' cn' ∧ lo_M l D ca2 gs y_M_rooted b_M_rooted 2 (some .int) (rm_d 0) [.int a1] w2 (some (.int r)) k rt' wd' ob' ln' kd' qt' df' cn' := by
  obtain ⟨mk, fd, fc, rfl⟩ := hG
  obtain ⟨mk2, gv, rfl⟩ := hM
  have ho : ∀ i, i < 512 → ob i < 513 := fun i hi => iv_lt hv.1 hi
  cases hc : ro_b a1 with
  | false =>
    refine ⟨1, nI 0, rt, wd, ob, ln, kd, qt, df, cn, by decide, hv, ?_, ?_⟩
    · exact hq_Zm (h_rooted_x1 l D ca hs rt wd ob ln kd qt df mk fd fc (iv_c ob) cn cL oa ov a1 (rm_x 1) ⟨rfl, rfl, by decide, by decide⟩ _ (c_G_rooted_out l htr D ca hs rt wd ob ln kd qt df mk fd fc (iv_c ob) cn a1 hc)) (fun k w' ov' h => ⟨h.1, ⟨mk, fd, fc, h.2.1⟩, fun e => absurd e (by decide)⟩)
    · exact gx_Zm (c_M_rooted_out l D ca2 gs rt wd ob ln kd qt df mk2 th cn gv a1 hc) (fun v w' h => ⟨h.1, mk2, gv, h.2⟩)
  | true =>
    obtain ⟨r, hr, rfl⟩ := ro_l hc
    refine ⟨0, rt r, rt, wd, ob, ln, kd, qt, df, cn, by decide, hv, ?_, ?_⟩
    · exact hq_Zm (h_rooted_ok l D ca hs rt wd ob ln kd qt df mk fd fc (iv_c ob) cn cL oa ov (nI r) (rm_d 1) ⟨rfl, rfl, by decide, by decide⟩ (rt r) _ (gx_Zm (hq_rd (c_G_rooted_in l D ca hs rt wd ob ln kd qt df mk fd fc (iv_c ob) cn r hr)) (fun v w' h => ⟨h.1, mk, fd, fc, h.2⟩))) (fun k w' ov' h => ⟨h.1, h.2.1, fun _ => h.2.2⟩)
    · exact gx_Zm (c_M_rooted_in l D ca2 gs rt wd ob ln kd qt df mk2 th cn gv r hr) (fun v w' h => ⟨h.1, mk2, gv, h.2⟩)

theorem lo_read (l : Launch) (htr : gt_htr l) (D : va_G) (ca : Nat → ClassId) (hs : Nat → Nat) (ca2 : Nat → ClassId) (gs : Nat → Nat) (cL : ClassId) (oa : Nat) (rt wd : Nat → Int32) (ob ln kd : Nat → Nat) (qt df : Nat → Bool) (cn : Nat) (w w2 : va_W) (th : Nat) (ov : Nat → Int64) (hG : wG ca hs rt wd ob ln kd qt df cn w) (hM : wM ca2 gs rt wd ob ln kd qt df cn th w2) (hv : iv_a ob ln kd wd (iv_c ob)) (a1 : Int32) : ∃ (k : Nat) (r : Int32) (rt' wd' : Nat → Int32) (ob' ln' kd' : Nat → Nat) (qt' df' : Nat → Bool) (cn' : Nat), k < 3 ∧ iv_a ob' ln' kd' wd' (iv_c ob') ∧ lo_H l D ca hs cL oa y_L_read b_L_read 4 [(0, 9, 12, 21), (0, 9, 15, 15)] [.ref (hs 0), .int a1, .ref oa] w ov (nI k) r rt' wd' ob' ln' kd' qt' df' cn' ∧ lo_M l D ca2 gs y_M_read b_M_read 2 (some .int) (rm_d 3) [.int a1] w2 (some (.int r)) k rt' wd' ob' ln' kd' qt' df' cn' := by
  obtain ⟨mk, fd, fc, rfl⟩ := hG
  obtain ⟨mk2, gv, rfl⟩ := hM
  have ho : ∀ i, i < 512 → ob i < 513 := fun i hi => iv_lt hv.1 hi
  cases hc : ad_b a1 with
  | false =>
    refine ⟨1, nI 0, rt, wd, ob, ln, kd, qt, df, cn, by decide, hv, ?_, ?_⟩
    · exact hq_Zm (h_read_x1 l D ca hs rt wd ob ln kd qt df mk fd fc (iv_c ob) cn cL oa ov a1 (rm_x 1) ⟨rfl, rfl, by decide, by decide⟩ _ (c_G_read_out l htr D ca hs rt wd ob ln kd qt df mk fd fc (iv_c ob) cn a1 hc)) (fun k w' ov' h => ⟨h.1, ⟨mk, fd, fc, h.2.1⟩, fun e => absurd e (by decide)⟩)
    · exact gx_Zm (c_M_read_out l D ca2 gs rt wd ob ln kd qt df mk2 th cn gv a1 hc) (fun v w' h => ⟨h.1, mk2, gv, h.2⟩)
  | true =>
    obtain ⟨hi, ha⟩ := ad_l hc
    rw [ha]
    generalize ad_x a1 = i at hi
    by_cases hne : ob i = 0
    · refine ⟨2, nI 0, rt, wd, ob, ln, kd, qt, df, cn, by decide, hv, ?_, ?_⟩
      · exact hq_Zm (h_read_x2 l D ca hs rt wd ob ln kd qt df mk fd fc (iv_c ob) cn cL oa ov (nI (4096 + i)) (rm_x 1) ⟨rfl, rfl, by decide, by decide⟩ _ (c_G_read_no l htr D ca hs rt wd ob ln kd qt df mk fd fc (iv_c ob) cn i hi hne)) (fun k w' ov' h => ⟨h.1, ⟨mk, fd, fc, h.2.1⟩, fun e => absurd e (by decide)⟩)
      · exact gx_Zm (c_M_read_no l D ca2 gs rt wd ob ln kd qt df mk2 th cn gv i hi ho hne) (fun v w' h => ⟨h.1, mk2, gv, h.2⟩)
    · refine ⟨0, wd i, rt, wd, ob, ln, kd, qt, df, cn, by decide, hv, ?_, ?_⟩
      · exact hq_Zm (h_read_ok l D ca hs rt wd ob ln kd qt df mk fd fc (iv_c ob) cn cL oa ov (nI (4096 + i)) (rm_d 3) ⟨rfl, rfl, by decide, by decide⟩ (wd i) _ (gx_Zm (hq_rd (c_G_read_in l D ca hs rt wd ob ln kd qt df mk fd fc (iv_c ob) cn i hi ho hne)) (fun v w' h => ⟨h.1, mk, fd, fc, h.2⟩))) (fun k w' ov' h => ⟨h.1, h.2.1, fun _ => h.2.2⟩)
      · exact gx_Zm (c_M_read_in l D ca2 gs rt wd ob ln kd qt df mk2 th cn gv i hi ho hne) (fun v w' h => ⟨h.1, mk2, gv, h.2⟩)

theorem lo_write (l : Launch) (htr : gt_htr l) (D : va_G) (ca : Nat → ClassId) (hs : Nat → Nat) (ca2 : Nat → ClassId) (gs : Nat → Nat) (cL : ClassId) (oa : Nat) (rt wd : Nat → Int32) (ob ln kd : Nat → Nat) (qt df : Nat → Bool) (cn : Nat) (w w2 : va_W) (th : Nat) (ov : Nat → Int64) (hG : wG ca hs rt wd ob ln kd qt df cn w) (hM : wM ca2 gs rt wd ob ln kd qt df cn th w2) (hv : iv_a ob ln kd wd (iv_c ob)) (a1 a2 : Int32) : ∃ (k : Nat) (r : Int32) (rt' wd' : Nat → Int32) (ob' ln' kd' : Nat → Nat) (qt' df' : Nat → Bool) (cn' : Nat), k < 3 ∧ iv_a ob' ln' kd' wd' (iv_c ob') ∧ lo_H l D ca hs cL oa y_L_write b_L_write 5 [(0, 10, 13, 21), (0, 10, 17, 15)] [.ref (hs 0), .int a1, .int a2, .ref oa] w ov (nI k) r rt' wd' ob' ln' kd' qt' df' cn' ∧ lo_M l D ca2 gs y_M_write b_M_write 4 (some .int) (rm_d 3) [.int a1, .int a2] w2 (some (.int r)) k rt' wd' ob' ln' kd' qt' df' cn' := by
  obtain ⟨mk, fd, fc, rfl⟩ := hG
  obtain ⟨mk2, gv, rfl⟩ := hM
  have ho : ∀ i, i < 512 → ob i < 513 := fun i hi => iv_lt hv.1 hi
  cases hc : ad_b a1 with
  | false =>
    refine ⟨1, nI 0, rt, wd, ob, ln, kd, qt, df, cn, by decide, hv, ?_, ?_⟩
    · exact hq_Zm (h_write_x1 l D ca hs rt wd ob ln kd qt df mk fd fc (iv_c ob) cn cL oa ov a1 a2 (rm_x 1) ⟨rfl, rfl, by decide, by decide⟩ _ (c_G_write_out l htr D ca hs rt wd ob ln kd qt df mk fd fc (iv_c ob) cn a1 hc a2)) (fun k w' ov' h => ⟨h.1, ⟨mk, fd, fc, h.2.1⟩, fun e => absurd e (by decide)⟩)
    · exact gx_Zm (c_M_write_out l D ca2 gs rt wd ob ln kd qt df mk2 th cn gv a1 hc a2) (fun v w' h => ⟨h.1, mk2, gv, h.2⟩)
  | true =>
    obtain ⟨hi, ha⟩ := ad_l hc
    rw [ha]
    generalize ad_x a1 = i at hi
    by_cases hne : ob i = 0
    · refine ⟨2, nI 0, rt, wd, ob, ln, kd, qt, df, cn, by decide, hv, ?_, ?_⟩
      · exact hq_Zm (h_write_x2 l D ca hs rt wd ob ln kd qt df mk fd fc (iv_c ob) cn cL oa ov (nI (4096 + i)) a2 (rm_x 1) ⟨rfl, rfl, by decide, by decide⟩ _ (c_G_write_no l htr D ca hs rt wd ob ln kd qt df mk fd fc (iv_c ob) cn i hi hne a2)) (fun k w' ov' h => ⟨h.1, ⟨mk, fd, fc, h.2.1⟩, fun e => absurd e (by decide)⟩)
      · exact gx_Zm (c_M_write_no l D ca2 gs rt wd ob ln kd qt df mk2 th cn gv i hi ho hne a2) (fun v w' h => ⟨h.1, mk2, gv, h.2⟩)
    · refine ⟨0, wd i, rt, va_up wd i a2, ob, ln, kd, qt, df, cn, by decide, ⟨hv.1, hv.2.1, hv.2.2.1, hv.2.2.2.1, (fun j hj h => (if_neg (fun e : j = i => hne (by rw [← e]; exact h))).trans (hv.2.2.2.2.1 j hj h)), rfl⟩, ?_, ?_⟩
      · exact hq_Zm (h_write_ok l D ca hs rt wd ob ln kd qt df mk fd fc (iv_c ob) cn cL oa ov (nI (4096 + i)) a2 (rm_d 3) ⟨rfl, rfl, by decide, by decide⟩ (wd i) _ (gx_Zm (c_G_write_in l D ca hs rt wd ob ln kd qt df mk fd fc (iv_c ob) cn i hi ho hne a2) (fun v w' h => ⟨h.1, mk, fd, fc, h.2⟩))) (fun k w' ov' h => ⟨h.1, h.2.1, fun _ => h.2.2⟩)
      · exact gx_Zm (c_M_write_in l D ca2 gs rt wd ob ln kd qt df mk2 th cn gv i hi ho hne a2) (fun v w' h => ⟨h.1, mk2, gv, h.2⟩)

theorem lo_allocate (l : Launch) (htr : gt_htr l) (D : va_G) (ca : Nat → ClassId) (hs : Nat → Nat) (ca2 : Nat → ClassId) (gs : Nat → Nat) (cL : ClassId) (oa : Nat) (rt wd : Nat → Int32) (ob ln kd : Nat → Nat) (qt df : Nat → Bool) (cn : Nat) (w w2 : va_W) (th : Nat) (ov : Nat → Int64) (hG : wG ca hs rt wd ob ln kd qt df cn w) (hM : wM ca2 gs rt wd ob ln kd qt df cn th w2) (hv : iv_a ob ln kd wd (iv_c ob)) (a1 : Int32) (sl : Bool) : ∃ (k : Nat) (r : Int32) (rt' wd' : Nat → Int32) (ob' ln' kd' : Nat → Nat) (qt' df' : Nat → Bool) (cn' : Nat), k < 3 ∧ iv_a ob' ln' kd' wd' (iv_c ob') ∧ lo_H l D ca hs cL oa y_L_allocate b_L_allocate 5 [(0, 10, 13, 13), (0, 10, 17, 15)] [.ref (hs 0), .int a1, .int (zb_e sl), .ref oa] w ov (nI k) r rt' wd' ob' ln' kd' qt' df' cn' ∧ lo_M l D ca2 gs y_M_allocate b_M_allocate 4 (some .int) (rm_d 5) [.int a1, .int (zb_e sl)] w2 (some (.int r)) k rt' wd' ob' ln' kd' qt' df' cn' := by
  obtain ⟨mk, fd, fc, rfl⟩ := hG
  obtain ⟨mk2, gv, rfl⟩ := hM
  have ho : ∀ i, i < 512 → ob i < 513 := fun i hi => iv_lt hv.1 hi
  cases hc : rg_b a1 with
  | false =>
    refine ⟨1, nI 0, rt, wd, ob, ln, kd, qt, df, cn, by decide, hv, ?_, ?_⟩
    · exact hq_Zm (h_allocate_x1 l D ca hs rt wd ob ln kd qt df mk fd fc (iv_c ob) cn cL oa ov a1 sl (rm_x 0) ⟨rfl, rfl, by decide, by decide⟩ _ (c_G_allocate_out l htr D ca hs rt wd ob ln kd qt df mk fd fc (iv_c ob) cn a1 hc sl)) (fun k w' ov' h => ⟨h.1, ⟨mk, fd, fc, h.2.1⟩, fun e => absurd e (by decide)⟩)
    · exact gx_Zm (c_M_allocate_out l D ca2 gs rt wd ob ln kd qt df mk2 th cn gv a1 hc sl) (fun v w' h => ⟨h.1, mk2, gv, h.2⟩)
  | true =>
    obtain ⟨n, hn1, hn2, rfl⟩ := rg_l hc
    have hv2 := co_iv (co_mk rt wd ob ln qt) hv
    by_cases hr0 : rm_n ob kd df n false < 512
    · skip
      have h5 := st_iv hv hn1 (rm_fact hv.1 hv.2.2.1 hn1 hr0)
      have h6 := h5.2.2.2.2.2
      refine ⟨0, nI (4096 + (rm_n ob kd df n false)), rt, wd, st_ob ob (rm_n ob kd df n false) (ss_n n), va_up ln (rm_n ob kd df n false) (ss_n n), st_kd kd (rm_n ob kd df n false) (ss_n n) n, va_up qt (rm_n ob kd df n false) sl, st_df df (rm_n ob kd df n false) (ss_n n), cn, by decide, by rw [← h6]; exact h5, ?_, ?_⟩
      · by_cases hsm : n ≤ 16
        · exact hq_Zm (h_allocate_ok l D ca hs rt wd ob ln kd qt df mk fd fc (iv_c ob) cn cL oa ov (nI n) sl (rm_d 6) ⟨rfl, rfl, by decide, by decide⟩ (nI (4096 + (rm_n ob kd df n false))) _ (gx_Zm (c_G_allocate_1s l D ca hs rt wd ob ln kd qt df mk fd fc (iv_c ob) cn hv n sl hn1 hn2 hsm hr0) (fun v w' h => ⟨h.1, mk, fd, fc, h.2.trans (by rw [← h6])⟩))) (fun k w' ov' h => ⟨h.1, h.2.1, fun _ => h.2.2⟩)
        · have hM := c_G_allocate_1l l D ca hs rt wd ob ln kd qt df mk fd fc (iv_c ob) cn hv n sl hn1 hn2 hsm hr0
          rw [← rm_g (ob := ob) hsm] at hM
          exact hq_Zm (h_allocate_ok l D ca hs rt wd ob ln kd qt df mk fd fc (iv_c ob) cn cL oa ov (nI n) sl (rm_d 6) ⟨rfl, rfl, by decide, by decide⟩ (nI (4096 + (rm_n ob kd df n false))) _ (gx_Zm hM (fun v w' h => ⟨h.1, mk, fd, fc, h.2.trans (by rw [← h6])⟩))) (fun k w' ov' h => ⟨h.1, h.2.1, fun _ => h.2.2⟩)
      · exact gx_Zm (c_M_allocate_1 l D ca2 gs rt wd ob ln kd qt df mk2 th cn gv hv n sl hn1 hn2 hr0) (fun v w' h => ⟨h.1, mk2, gv, h.2⟩)
    · by_cases hr1 : rm_n (co_ob ob (co_mk rt wd ob ln qt)) (co_kd kd (co_ob ob (co_mk rt wd ob ln qt))) (co_df rt wd ob ln kd qt) n false < 512
      · skip
        have h5 := st_iv hv2 hn1 (rm_fact hv2.1 hv2.2.2.1 hn1 hr1)
        have h6 := h5.2.2.2.2.2
        refine ⟨0, nI (4096 + (rm_n (co_ob ob (co_mk rt wd ob ln qt)) (co_kd kd (co_ob ob (co_mk rt wd ob ln qt))) (co_df rt wd ob ln kd qt) n false)), rt, (co_wd wd ob (co_mk rt wd ob ln qt)), st_ob (co_ob ob (co_mk rt wd ob ln qt)) (rm_n (co_ob ob (co_mk rt wd ob ln qt)) (co_kd kd (co_ob ob (co_mk rt wd ob ln qt))) (co_df rt wd ob ln kd qt) n false) (ss_n n), va_up ln (rm_n (co_ob ob (co_mk rt wd ob ln qt)) (co_kd kd (co_ob ob (co_mk rt wd ob ln qt))) (co_df rt wd ob ln kd qt) n false) (ss_n n), st_kd (co_kd kd (co_ob ob (co_mk rt wd ob ln qt))) (rm_n (co_ob ob (co_mk rt wd ob ln qt)) (co_kd kd (co_ob ob (co_mk rt wd ob ln qt))) (co_df rt wd ob ln kd qt) n false) (ss_n n) n, va_up qt (rm_n (co_ob ob (co_mk rt wd ob ln qt)) (co_kd kd (co_ob ob (co_mk rt wd ob ln qt))) (co_df rt wd ob ln kd qt) n false) sl, st_df (co_df rt wd ob ln kd qt) (rm_n (co_ob ob (co_mk rt wd ob ln qt)) (co_kd kd (co_ob ob (co_mk rt wd ob ln qt))) (co_df rt wd ob ln kd qt) n false) (ss_n n), cn + 1, by decide, by rw [← h6]; exact h5, ?_, ?_⟩
        · by_cases hsm : n ≤ 16
          · exact hq_Zm (h_allocate_ok l D ca hs rt wd ob ln kd qt df mk fd fc (iv_c ob) cn cL oa ov (nI n) sl (rm_d 6) ⟨rfl, rfl, by decide, by decide⟩ (nI (4096 + (rm_n (co_ob ob (co_mk rt wd ob ln qt)) (co_kd kd (co_ob ob (co_mk rt wd ob ln qt))) (co_df rt wd ob ln kd qt) n false))) _ (gx_Zm (c_G_allocate_2s l D ca hs rt wd ob ln kd qt df mk fd fc (iv_c ob) cn hv n sl hn1 hn2 hsm hr0 hr1) (fun v w' h => (by obtain ⟨g1, fd2, fc2, g2⟩ := h; exact ⟨g1, co_mk rt wd ob ln qt, fd2, fc2, g2.trans (by rw [← h6])⟩)))) (fun k w' ov' h => ⟨h.1, h.2.1, fun _ => h.2.2⟩)
          · have hM := c_G_allocate_2l l D ca hs rt wd ob ln kd qt df mk fd fc (iv_c ob) cn hv n sl hn1 hn2 hsm hr0 hr1
            rw [← rm_g (ob := (co_ob ob (co_mk rt wd ob ln qt))) hsm] at hM
            exact hq_Zm (h_allocate_ok l D ca hs rt wd ob ln kd qt df mk fd fc (iv_c ob) cn cL oa ov (nI n) sl (rm_d 6) ⟨rfl, rfl, by decide, by decide⟩ (nI (4096 + (rm_n (co_ob ob (co_mk rt wd ob ln qt)) (co_kd kd (co_ob ob (co_mk rt wd ob ln qt))) (co_df rt wd ob ln kd qt) n false))) _ (gx_Zm hM (fun v w' h => (by obtain ⟨g1, fd2, fc2, g2⟩ := h; exact ⟨g1, co_mk rt wd ob ln qt, fd2, fc2, g2.trans (by rw [← h6])⟩)))) (fun k w' ov' h => ⟨h.1, h.2.1, fun _ => h.2.2⟩)
        · exact gx_Zm (c_M_allocate_2 l D ca2 gs rt wd ob ln kd qt df mk2 th cn gv hv n sl hn1 hn2 hr0 hr1) (fun v w' h => ⟨h.1, _, _, h.2⟩)
      · by_cases hr2 : rm_n (co_ob ob (co_mk rt wd ob ln qt)) (co_kd kd (co_ob ob (co_mk rt wd ob ln qt))) (co_df rt wd ob ln kd qt) n true < 512
        · skip
          have h5 := st_iv hv2 hn1 (rm_fact hv2.1 hv2.2.2.1 hn1 hr2)
          have h6 := h5.2.2.2.2.2
          refine ⟨0, nI (4096 + (rm_n (co_ob ob (co_mk rt wd ob ln qt)) (co_kd kd (co_ob ob (co_mk rt wd ob ln qt))) (co_df rt wd ob ln kd qt) n true)), rt, (co_wd wd ob (co_mk rt wd ob ln qt)), st_ob (co_ob ob (co_mk rt wd ob ln qt)) (rm_n (co_ob ob (co_mk rt wd ob ln qt)) (co_kd kd (co_ob ob (co_mk rt wd ob ln qt))) (co_df rt wd ob ln kd qt) n true) (ss_n n), va_up ln (rm_n (co_ob ob (co_mk rt wd ob ln qt)) (co_kd kd (co_ob ob (co_mk rt wd ob ln qt))) (co_df rt wd ob ln kd qt) n true) (ss_n n), st_kd (co_kd kd (co_ob ob (co_mk rt wd ob ln qt))) (rm_n (co_ob ob (co_mk rt wd ob ln qt)) (co_kd kd (co_ob ob (co_mk rt wd ob ln qt))) (co_df rt wd ob ln kd qt) n true) (ss_n n) n, va_up qt (rm_n (co_ob ob (co_mk rt wd ob ln qt)) (co_kd kd (co_ob ob (co_mk rt wd ob ln qt))) (co_df rt wd ob ln kd qt) n true) sl, st_df (co_df rt wd ob ln kd qt) (rm_n (co_ob ob (co_mk rt wd ob ln qt)) (co_kd kd (co_ob ob (co_mk rt wd ob ln qt))) (co_df rt wd ob ln kd qt) n true) (ss_n n), cn + 1, by decide, by rw [← h6]; exact h5, ?_, ?_⟩
          · by_cases hsm : n ≤ 16
            · exact hq_Zm (h_allocate_ok l D ca hs rt wd ob ln kd qt df mk fd fc (iv_c ob) cn cL oa ov (nI n) sl (rm_d 6) ⟨rfl, rfl, by decide, by decide⟩ (nI (4096 + (rm_n (co_ob ob (co_mk rt wd ob ln qt)) (co_kd kd (co_ob ob (co_mk rt wd ob ln qt))) (co_df rt wd ob ln kd qt) n true))) _ (gx_Zm (c_G_allocate_3s l D ca hs rt wd ob ln kd qt df mk fd fc (iv_c ob) cn hv n sl hn1 hn2 hsm hr0 hr1 hr2) (fun v w' h => (by obtain ⟨g1, fd2, fc2, g2⟩ := h; exact ⟨g1, co_mk rt wd ob ln qt, fd2, fc2, g2.trans (by rw [← h6])⟩)))) (fun k w' ov' h => ⟨h.1, h.2.1, fun _ => h.2.2⟩)
            · have hM := c_G_allocate_3l l D ca hs rt wd ob ln kd qt df mk fd fc (iv_c ob) cn hv n sl hn1 hn2 hsm hr0 hr1 hr2
              rw [← rm_g (ob := (co_ob ob (co_mk rt wd ob ln qt))) hsm] at hM
              exact hq_Zm (h_allocate_ok l D ca hs rt wd ob ln kd qt df mk fd fc (iv_c ob) cn cL oa ov (nI n) sl (rm_d 6) ⟨rfl, rfl, by decide, by decide⟩ (nI (4096 + (rm_n (co_ob ob (co_mk rt wd ob ln qt)) (co_kd kd (co_ob ob (co_mk rt wd ob ln qt))) (co_df rt wd ob ln kd qt) n true))) _ (gx_Zm hM (fun v w' h => (by obtain ⟨g1, fd2, fc2, g2⟩ := h; exact ⟨g1, co_mk rt wd ob ln qt, fd2, fc2, g2.trans (by rw [← h6])⟩)))) (fun k w' ov' h => ⟨h.1, h.2.1, fun _ => h.2.2⟩)
          · exact gx_Zm (c_M_allocate_3 l D ca2 gs rt wd ob ln kd qt df mk2 th cn gv hv n sl hn1 hn2 hr0 hr1 hr2) (fun v w' h => ⟨h.1, _, _, h.2⟩)
        · refine ⟨2, nI 0, rt, (co_wd wd ob (co_mk rt wd ob ln qt)), (co_ob ob (co_mk rt wd ob ln qt)), ln, (co_kd kd (co_ob ob (co_mk rt wd ob ln qt))), qt, (co_df rt wd ob ln kd qt), cn + 1, by decide, hv2, ?_, ?_⟩
          · exact hq_Zm (h_allocate_x2 l D ca hs rt wd ob ln kd qt df mk fd fc (iv_c ob) cn cL oa ov (nI n) sl (rm_x 6) ⟨rfl, rfl, by decide, by decide⟩ _ (c_G_allocate_4 l htr D ca hs rt wd ob ln kd qt df mk fd fc (iv_c ob) cn hv n sl hn1 hn2 hr0 hr1 hr2)) (fun k w' ov' h => ⟨h.1, (by obtain ⟨fd2, fc2, g2⟩ := h.2.1; exact ⟨co_mk rt wd ob ln qt, fd2, fc2, g2⟩), fun e => absurd e (by decide)⟩)
          · exact gx_Zm (c_M_allocate_4 l D ca2 gs rt wd ob ln kd qt df mk2 th cn gv hv n sl hn1 hn2 hr0 hr1 hr2) (fun v w' h => ⟨h.1, _, _, h.2⟩)

theorem lo_root (l : Launch) (htr : gt_htr l) (D : va_G) (ca : Nat → ClassId) (hs : Nat → Nat) (ca2 : Nat → ClassId) (gs : Nat → Nat) (cL : ClassId) (oa : Nat) (rt wd : Nat → Int32) (ob ln kd : Nat → Nat) (qt df : Nat → Bool) (cn : Nat) (w w2 : va_W) (th : Nat) (ov : Nat → Int64) (hG : wG ca hs rt wd ob ln kd qt df cn w) (hM : wM ca2 gs rt wd ob ln kd qt df cn th w2) (hv : iv_a ob ln kd wd (iv_c ob)) (a1 a2 : Int32) : ∃ (k : Nat) (rt' wd' : Nat → Int32) (ob' ln' kd' : Nat → Nat) (qt' df' : Nat → Bool) (cn' : Nat), k < 3 ∧ iv_a ob' ln' kd' wd' (iv_c ob') ∧ lo_R l D ca hs cL oa y_L_root b_L_root 4 [(0, 6, 9, 21)] [.ref (hs 0), .int a1, .int a2] w ov (nI k) rt' wd' ob' ln' kd' qt' df' cn' ∧ lo_M l D ca2 gs y_M_root b_M_root 3 none (rm_d 0) [.int a1, .int a2] w2 none k rt' wd' ob' ln' kd' qt' df' cn' := by
  obtain ⟨mk, fd, fc, rfl⟩ := hG
  obtain ⟨mk2, gv, rfl⟩ := hM
  have ho : ∀ i, i < 512 → ob i < 513 := fun i hi => iv_lt hv.1 hi
  cases hc : ro_b a1 with
  | false =>
    refine ⟨1, rt, wd, ob, ln, kd, qt, df, cn, by decide, hv, ?_, ?_⟩
    · exact hq_Zm (h_root_x1 l D ca hs rt wd ob ln kd qt df mk fd fc (iv_c ob) cn cL oa ov a1 a2 (rm_x 1) ⟨rfl, rfl, by decide, by decide⟩ _ (c_G_root_out l htr D ca hs rt wd ob ln kd qt df mk fd fc (iv_c ob) cn a1 hc a2)) (fun k w' ov' h => ⟨h.1, ⟨mk, fd, fc, h.2.1⟩, h.2.2⟩)
    · exact gx_Zm (c_M_root_out l D ca2 gs rt wd ob ln kd qt df mk2 th cn gv a1 hc a2) (fun v w' h => ⟨h.1, mk2, gv, h.2⟩)
  | true =>
    obtain ⟨r, hr, rfl⟩ := ro_l hc
    refine ⟨0, va_up rt r a2, wd, ob, ln, kd, qt, df, cn, by decide, hv, ?_, ?_⟩
    · exact hq_Zm (h_root_ok l D ca hs rt wd ob ln kd qt df mk fd fc (iv_c ob) cn cL oa ov (nI r) a2 (rm_d 1) ⟨rfl, rfl, by decide, by decide⟩ 0 _ (gx_Zm (c_G_root_in l D ca hs rt wd ob ln kd qt df mk fd fc (iv_c ob) cn r hr a2) (fun v w' h => ⟨h.1, mk, fd, fc, h.2⟩))) (fun k w' ov' h => ⟨h.1, h.2.1, h.2.2⟩)
    · exact gx_Zm (c_M_root_in l D ca2 gs rt wd ob ln kd qt df mk2 th cn gv r hr a2) (fun v w' h => ⟨h.1, mk2, gv, h.2⟩)

theorem lq_base (l : Launch) (D : va_G) (ca : Nat → ClassId) (hs : Nat → Nat) (ca2 : Nat → ClassId) (gs : Nat → Nat) (rt wd : Nat → Int32) (ob ln kd : Nat → Nat) (qt df : Nat → Bool) (cn : Nat) (w w2 : va_W) (th : Nat) (hG : wG ca hs rt wd ob ln kd qt df cn w) (hM : wM ca2 gs rt wd ob ln kd qt df cn th w2) (hv : iv_a ob ln kd wd (iv_c ob)) (a1 : Int32) : ∃ (r : Int32) (rt' wd' : Nat → Int32) (ob' ln' kd' : Nat → Nat) (qt' df' : Nat → Bool) (cn' : Nat), iv_a ob' ln' kd' wd' (iv_c ob') ∧ lo_G l D ca hs y_G_base b_G_base 3 (some .int) (rm_d 2) [.int a1] w (some (.int r)) rt' wd' ob' ln' kd' qt' df' cn' ∧ lo_M l D ca2 gs y_M_base b_M_base 3 (some .int) (rm_d 2) [.int a1] w2 (some (.int r)) 0 rt' wd' ob' ln' kd' qt' df' cn' := by
  obtain ⟨mk, fd, fc, rfl⟩ := hG
  obtain ⟨mk2, gv, rfl⟩ := hM
  have ho : ∀ i, i < 512 → ob i < 513 := fun i hi => iv_lt hv.1 hi
  have hk : ∀ b, b < 16 → kd b < 34 := fun b hb => iv_kl hv.2.1 hb
  cases hc : ad_b a1 with
  | false => exact ⟨(-1), rt, wd, ob, ln, kd, qt, df, cn, hv, gx_Zm (hq_rd (c_G_base_out l D ca hs rt wd ob ln kd qt df mk fd fc (iv_c ob) cn a1 hc)) (fun v w' h => ⟨h.1, mk, fd, fc, h.2⟩), gx_Zm (c_M_base_out l D ca2 gs rt wd ob ln kd qt df mk2 th cn gv a1 hc) (fun v w' h => ⟨h.1, mk2, gv, h.2⟩)⟩
  | true =>
    obtain ⟨hi, ha⟩ := ad_l hc
    rw [ha]
    generalize ad_x a1 = i at hi
    exact ⟨(ba_e (ob i)), rt, wd, ob, ln, kd, qt, df, cn, hv, gx_Zm (hq_rd (c_G_base_in l D ca hs rt wd ob ln kd qt df mk fd fc (iv_c ob) cn i hi ho)) (fun v w' h => ⟨h.1, mk, fd, fc, h.2⟩), gx_Zm (c_M_base_in l D ca2 gs rt wd ob ln kd qt df mk2 th cn gv i hi ho) (fun v w' h => ⟨h.1, mk2, gv, h.2⟩)⟩

theorem lq_size (l : Launch) (D : va_G) (ca : Nat → ClassId) (hs : Nat → Nat) (ca2 : Nat → ClassId) (gs : Nat → Nat) (rt wd : Nat → Int32) (ob ln kd : Nat → Nat) (qt df : Nat → Bool) (cn : Nat) (w w2 : va_W) (th : Nat) (hG : wG ca hs rt wd ob ln kd qt df cn w) (hM : wM ca2 gs rt wd ob ln kd qt df cn th w2) (hv : iv_a ob ln kd wd (iv_c ob)) (a1 : Int32) : ∃ (r : Int32) (rt' wd' : Nat → Int32) (ob' ln' kd' : Nat → Nat) (qt' df' : Nat → Bool) (cn' : Nat), iv_a ob' ln' kd' wd' (iv_c ob') ∧ lo_G l D ca hs y_G_size b_G_size 3 (some .int) (rm_d 2) [.int a1] w (some (.int r)) rt' wd' ob' ln' kd' qt' df' cn' ∧ lo_M l D ca2 gs y_M_size b_M_size 3 (some .int) (rm_d 2) [.int a1] w2 (some (.int r)) 0 rt' wd' ob' ln' kd' qt' df' cn' := by
  obtain ⟨mk, fd, fc, rfl⟩ := hG
  obtain ⟨mk2, gv, rfl⟩ := hM
  have ho : ∀ i, i < 512 → ob i < 513 := fun i hi => iv_lt hv.1 hi
  have hk : ∀ b, b < 16 → kd b < 34 := fun b hb => iv_kl hv.2.1 hb
  cases hc : ad_b a1 with
  | false => exact ⟨(nI 0), rt, wd, ob, ln, kd, qt, df, cn, hv, gx_Zm (hq_rd (c_G_size_out l D ca hs rt wd ob ln kd qt df mk fd fc (iv_c ob) cn a1 hc)) (fun v w' h => ⟨h.1, mk, fd, fc, h.2⟩), gx_Zm (c_M_size_out l D ca2 gs rt wd ob ln kd qt df mk2 th cn gv a1 hc) (fun v w' h => ⟨h.1, mk2, gv, h.2⟩)⟩
  | true =>
    obtain ⟨hi, ha⟩ := ad_l hc
    rw [ha]
    generalize ad_x a1 = i at hi
    exact ⟨(nI (sn_n ln (ob i))), rt, wd, ob, ln, kd, qt, df, cn, hv, gx_Zm (hq_rd (c_G_size_in l D ca hs rt wd ob ln kd qt df mk fd fc (iv_c ob) cn i hi ho)) (fun v w' h => ⟨h.1, mk, fd, fc, h.2⟩), gx_Zm (c_M_size_in l D ca2 gs rt wd ob ln kd qt df mk2 th cn gv i hi ho) (fun v w' h => ⟨h.1, mk2, gv, h.2⟩)⟩

theorem lq_silent (l : Launch) (D : va_G) (ca : Nat → ClassId) (hs : Nat → Nat) (ca2 : Nat → ClassId) (gs : Nat → Nat) (rt wd : Nat → Int32) (ob ln kd : Nat → Nat) (qt df : Nat → Bool) (cn : Nat) (w w2 : va_W) (th : Nat) (hG : wG ca hs rt wd ob ln kd qt df cn w) (hM : wM ca2 gs rt wd ob ln kd qt df cn th w2) (hv : iv_a ob ln kd wd (iv_c ob)) (a1 : Int32) : ∃ (r : Int32) (rt' wd' : Nat → Int32) (ob' ln' kd' : Nat → Nat) (qt' df' : Nat → Bool) (cn' : Nat), iv_a ob' ln' kd' wd' (iv_c ob') ∧ lo_G l D ca hs y_G_silent b_G_silent 3 (some .boolean) (rm_d 2) [.int a1] w (some (.int r)) rt' wd' ob' ln' kd' qt' df' cn' ∧ lo_M l D ca2 gs y_M_silent b_M_silent 3 (some .boolean) (rm_d 2) [.int a1] w2 (some (.int r)) 0 rt' wd' ob' ln' kd' qt' df' cn' := by
  obtain ⟨mk, fd, fc, rfl⟩ := hG
  obtain ⟨mk2, gv, rfl⟩ := hM
  have ho : ∀ i, i < 512 → ob i < 513 := fun i hi => iv_lt hv.1 hi
  have hk : ∀ b, b < 16 → kd b < 34 := fun b hb => iv_kl hv.2.1 hb
  cases hc : ad_b a1 with
  | false => exact ⟨(zb_e false), rt, wd, ob, ln, kd, qt, df, cn, hv, gx_Zm (hq_rd (c_G_silent_out l D ca hs rt wd ob ln kd qt df mk fd fc (iv_c ob) cn a1 hc)) (fun v w' h => ⟨h.1, mk, fd, fc, h.2⟩), gx_Zm (c_M_silent_out l D ca2 gs rt wd ob ln kd qt df mk2 th cn gv a1 hc) (fun v w' h => ⟨h.1, mk2, gv, h.2⟩)⟩
  | true =>
    obtain ⟨hi, ha⟩ := ad_l hc
    rw [ha]
    generalize ad_x a1 = i at hi
    exact ⟨(zb_e (sq_b qt (ob i))), rt, wd, ob, ln, kd, qt, df, cn, hv, gx_Zm (hq_rd (c_G_silent_in l D ca hs rt wd ob ln kd qt df mk fd fc (iv_c ob) cn i hi ho)) (fun v w' h => ⟨h.1, mk, fd, fc, h.2⟩), gx_Zm (c_M_silent_in l D ca2 gs rt wd ob ln kd qt df mk2 th cn gv i hi ho) (fun v w' h => ⟨h.1, mk2, gv, h.2⟩)⟩

theorem lq_block (l : Launch) (D : va_G) (ca : Nat → ClassId) (hs : Nat → Nat) (ca2 : Nat → ClassId) (gs : Nat → Nat) (rt wd : Nat → Int32) (ob ln kd : Nat → Nat) (qt df : Nat → Bool) (cn : Nat) (w w2 : va_W) (th : Nat) (hG : wG ca hs rt wd ob ln kd qt df cn w) (hM : wM ca2 gs rt wd ob ln kd qt df cn th w2) (hv : iv_a ob ln kd wd (iv_c ob)) (a1 : Int32) : ∃ (r : Int32) (rt' wd' : Nat → Int32) (ob' ln' kd' : Nat → Nat) (qt' df' : Nat → Bool) (cn' : Nat), iv_a ob' ln' kd' wd' (iv_c ob') ∧ lo_G l D ca hs y_G_block b_G_block 2 (some .int) (rm_d 1) [.int a1] w (some (.int r)) rt' wd' ob' ln' kd' qt' df' cn' ∧ lo_M l D ca2 gs y_M_block b_M_block 2 (some .int) (rm_d 0) [.int a1] w2 (some (.int r)) 0 rt' wd' ob' ln' kd' qt' df' cn' := by
  obtain ⟨mk, fd, fc, rfl⟩ := hG
  obtain ⟨mk2, gv, rfl⟩ := hM
  have ho : ∀ i, i < 512 → ob i < 513 := fun i hi => iv_lt hv.1 hi
  have hk : ∀ b, b < 16 → kd b < 34 := fun b hb => iv_kl hv.2.1 hb
  cases hc : bk_b a1 with
  | false => exact ⟨(-1), rt, wd, ob, ln, kd, qt, df, cn, hv, gx_Zm (hq_rd (c_G_block_out l D ca hs rt wd ob ln kd qt df mk fd fc (iv_c ob) cn a1 hc)) (fun v w' h => ⟨h.1, mk, fd, fc, h.2⟩), gx_Zm (c_M_block_out l D ca2 gs rt wd ob ln kd qt df mk2 th cn gv a1 hc) (fun v w' h => ⟨h.1, mk2, gv, h.2⟩)⟩
  | true =>
    obtain ⟨b, hb, rfl⟩ := bk_l hc
    exact ⟨(nI (bl_n kd df b)), rt, wd, ob, ln, kd, qt, df, cn, hv, gx_Zm (hq_rd (c_G_block_in l D ca hs rt wd ob ln kd qt df mk fd fc (iv_c ob) cn b hb)) (fun v w' h => ⟨h.1, mk, fd, fc, h.2⟩), gx_Zm (c_M_block_in l D ca2 gs rt wd ob ln kd qt df mk2 th cn gv b hb) (fun v w' h => ⟨h.1, mk2, gv, h.2⟩)⟩

theorem lq_empty (l : Launch) (D : va_G) (ca : Nat → ClassId) (hs : Nat → Nat) (ca2 : Nat → ClassId) (gs : Nat → Nat) (rt wd : Nat → Int32) (ob ln kd : Nat → Nat) (qt df : Nat → Bool) (cn : Nat) (w w2 : va_W) (th : Nat) (hG : wG ca hs rt wd ob ln kd qt df cn w) (hM : wM ca2 gs rt wd ob ln kd qt df cn th w2) (hv : iv_a ob ln kd wd (iv_c ob)) (a1 : Int32) : ∃ (r : Int32) (rt' wd' : Nat → Int32) (ob' ln' kd' : Nat → Nat) (qt' df' : Nat → Bool) (cn' : Nat), iv_a ob' ln' kd' wd' (iv_c ob') ∧ lo_G l D ca hs y_G_empty b_G_empty 2 (some .int) (rm_d 1) [.int a1] w (some (.int r)) rt' wd' ob' ln' kd' qt' df' cn' ∧ lo_M l D ca2 gs y_M_empty b_M_empty 4 (some .int) (rm_d 0) [.int a1] w2 (some (.int r)) 0 rt' wd' ob' ln' kd' qt' df' cn' := by
  obtain ⟨mk, fd, fc, rfl⟩ := hG
  obtain ⟨mk2, gv, rfl⟩ := hM
  have ho : ∀ i, i < 512 → ob i < 513 := fun i hi => iv_lt hv.1 hi
  have hk : ∀ b, b < 16 → kd b < 34 := fun b hb => iv_kl hv.2.1 hb
  cases hc : bk_b a1 with
  | false => exact ⟨(nI 0), rt, wd, ob, ln, kd, qt, df, cn, hv, gx_Zm (hq_rd (c_G_empty_out l D ca hs rt wd ob ln kd qt df mk fd fc (iv_c ob) cn a1 hc)) (fun v w' h => ⟨h.1, mk, fd, fc, h.2⟩), gx_Zm (c_M_empty_out l D ca2 gs rt wd ob ln kd qt df mk2 th cn gv a1 hc) (fun v w' h => ⟨h.1, mk2, gv, h.2⟩)⟩
  | true =>
    obtain ⟨b, hb, rfl⟩ := bk_l hc
    exact ⟨(nI (em_n ob kd b)), rt, wd, ob, ln, kd, qt, df, cn, hv, gx_Zm (hq_rd (c_G_empty_in l D ca hs rt wd ob ln kd qt df mk fd fc (iv_c ob) cn b hb hk ho)) (fun v w' h => ⟨h.1, mk, fd, fc, h.2⟩), gx_Zm (c_M_empty_in l D ca2 gs rt wd ob ln kd qt df mk2 th cn gv b hb hv) (fun v w' h => ⟨h.1, mk2, gv, h.2⟩)⟩

theorem lq_objects (l : Launch) (D : va_G) (ca : Nat → ClassId) (hs : Nat → Nat) (ca2 : Nat → ClassId) (gs : Nat → Nat) (rt wd : Nat → Int32) (ob ln kd : Nat → Nat) (qt df : Nat → Bool) (cn : Nat) (w w2 : va_W) (th : Nat) (hG : wG ca hs rt wd ob ln kd qt df cn w) (hM : wM ca2 gs rt wd ob ln kd qt df cn th w2) (hv : iv_a ob ln kd wd (iv_c ob))  : ∃ (r : Int32) (rt' wd' : Nat → Int32) (ob' ln' kd' : Nat → Nat) (qt' df' : Nat → Bool) (cn' : Nat), iv_a ob' ln' kd' wd' (iv_c ob') ∧ lo_G l D ca hs y_G_objects b_G_objects 1 (some .int) (rm_d 0) [] w (some (.int r)) rt' wd' ob' ln' kd' qt' df' cn' ∧ lo_M l D ca2 gs y_M_objects b_M_objects 3 (some .int) (rm_d 0) [] w2 (some (.int r)) 0 rt' wd' ob' ln' kd' qt' df' cn' := by
  obtain ⟨mk, fd, fc, rfl⟩ := hG
  obtain ⟨mk2, gv, rfl⟩ := hM
  have ho : ∀ i, i < 512 → ob i < 513 := fun i hi => iv_lt hv.1 hi
  have hk : ∀ b, b < 16 → kd b < 34 := fun b hb => iv_kl hv.2.1 hb
  exact ⟨(nI (iv_c ob)), rt, wd, ob, ln, kd, qt, df, cn, hv, gx_Zm (hq_rd (c_G_objects l D ca hs rt wd ob ln kd qt df mk fd fc (iv_c ob) cn)) (fun v w' h => ⟨h.1, mk, fd, fc, h.2⟩), gx_Zm (c_M_objects l D ca2 gs rt wd ob ln kd qt df mk2 th cn gv ho) (fun v w' h => ⟨h.1, mk2, gv, h.2⟩)⟩

theorem lq_collections (l : Launch) (D : va_G) (ca : Nat → ClassId) (hs : Nat → Nat) (ca2 : Nat → ClassId) (gs : Nat → Nat) (rt wd : Nat → Int32) (ob ln kd : Nat → Nat) (qt df : Nat → Bool) (cn : Nat) (w w2 : va_W) (th : Nat) (hG : wG ca hs rt wd ob ln kd qt df cn w) (hM : wM ca2 gs rt wd ob ln kd qt df cn th w2) (hv : iv_a ob ln kd wd (iv_c ob))  : ∃ (r : Int32) (rt' wd' : Nat → Int32) (ob' ln' kd' : Nat → Nat) (qt' df' : Nat → Bool) (cn' : Nat), iv_a ob' ln' kd' wd' (iv_c ob') ∧ lo_G l D ca hs y_G_collections b_G_collections 1 (some .int) (rm_d 0) [] w (some (.int r)) rt' wd' ob' ln' kd' qt' df' cn' ∧ lo_M l D ca2 gs y_M_collections b_M_collections 1 (some .int) (rm_d 0) [] w2 (some (.int r)) 0 rt' wd' ob' ln' kd' qt' df' cn' := by
  obtain ⟨mk, fd, fc, rfl⟩ := hG
  obtain ⟨mk2, gv, rfl⟩ := hM
  have ho : ∀ i, i < 512 → ob i < 513 := fun i hi => iv_lt hv.1 hi
  have hk : ∀ b, b < 16 → kd b < 34 := fun b hb => iv_kl hv.2.1 hb
  exact ⟨(nI cn), rt, wd, ob, ln, kd, qt, df, cn, hv, gx_Zm (hq_rd (c_G_collections l D ca hs rt wd ob ln kd qt df mk fd fc (iv_c ob) cn)) (fun v w' h => ⟨h.1, mk, fd, fc, h.2⟩), gx_Zm (c_M_collections l D ca2 gs rt wd ob ln kd qt df mk2 th cn gv) (fun v w' h => ⟨h.1, mk2, gv, h.2⟩)⟩

theorem lq_collect (l : Launch) (D : va_G) (ca : Nat → ClassId) (hs : Nat → Nat) (ca2 : Nat → ClassId) (gs : Nat → Nat) (rt wd : Nat → Int32) (ob ln kd : Nat → Nat) (qt df : Nat → Bool) (cn : Nat) (w w2 : va_W) (th : Nat) (hG : wG ca hs rt wd ob ln kd qt df cn w) (hM : wM ca2 gs rt wd ob ln kd qt df cn th w2) (hv : iv_a ob ln kd wd (iv_c ob))  : ∃ (r : Int32) (rt' wd' : Nat → Int32) (ob' ln' kd' : Nat → Nat) (qt' df' : Nat → Bool) (cn' : Nat), iv_a ob' ln' kd' wd' (iv_c ob') ∧ lo_G l D ca hs y_G_collect b_G_collect 1 (some .int) (rm_d 6) [] w (some (.int r)) rt' wd' ob' ln' kd' qt' df' cn' ∧ lo_M l D ca2 gs y_M_collect b_M_collect 1 (some .int) (rm_d 5) [] w2 (some (.int r)) 0 rt' wd' ob' ln' kd' qt' df' cn' := by
  obtain ⟨mk, fd, fc, rfl⟩ := hG
  obtain ⟨mk2, gv, rfl⟩ := hM
  have ho : ∀ i, i < 512 → ob i < 513 := fun i hi => iv_lt hv.1 hi
  have hk : ∀ b, b < 16 → kd b < 34 := fun b hb => iv_kl hv.2.1 hb
  refine ⟨nI (iv_c ob - iv_c (co_ob ob (co_mk rt wd ob ln qt))), rt, (co_wd wd ob (co_mk rt wd ob ln qt)), (co_ob ob (co_mk rt wd ob ln qt)), ln, (co_kd kd (co_ob ob (co_mk rt wd ob ln qt))), qt, (co_df rt wd ob ln kd qt), cn + 1, co_iv (co_mk rt wd ob ln qt) hv, gx_Zm (c_G_collect l D ca hs rt wd ob ln kd qt df mk fd fc (iv_c ob) cn hv) (fun v w' h => ?_), gx_Zm (c_M_collect l D ca2 gs rt wd ob ln kd qt df mk2 th cn gv hv) (fun v w' h => ⟨h.1, _, _, h.2⟩)⟩
  obtain ⟨g1, fd2, fc2, g2⟩ := h
  exact ⟨g1, co_mk rt wd ob ln qt, fd2, fc2, g2⟩

