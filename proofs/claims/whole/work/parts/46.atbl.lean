/-! the words are the tables' -/
theorem wa_0_t : ∀ w ∈ wa_0, w ∈ lw_tbl := by
  have h : (wa_0.all fun w => decide (w ∈ lw_tbl)) = true := by decide +kernel
  exact fun w hw => of_decide_eq_true (List.all_eq_true.mp h w hw)
theorem wa_1_t : ∀ w ∈ wa_1, w ∈ lw_tbl := by
  have h : (wa_1.all fun w => decide (w ∈ lw_tbl)) = true := by decide +kernel
  exact fun w hw => of_decide_eq_true (List.all_eq_true.mp h w hw)
theorem wa_2_t : ∀ w ∈ wa_2, w ∈ lw_tbl := by
  have h : (wa_2.all fun w => decide (w ∈ lw_tbl)) = true := by decide +kernel
  exact fun w hw => of_decide_eq_true (List.all_eq_true.mp h w hw)
theorem wa_3_t : ∀ w ∈ wa_3, w ∈ lw_tbl := by
  have h : (wa_3.all fun w => decide (w ∈ lw_tbl)) = true := by decide +kernel
  exact fun w hw => of_decide_eq_true (List.all_eq_true.mp h w hw)
theorem wa_4_t : ∀ w ∈ wa_4, w ∈ lw_tbl := by
  have h : (wa_4.all fun w => decide (w ∈ lw_tbl)) = true := by decide +kernel
  exact fun w hw => of_decide_eq_true (List.all_eq_true.mp h w hw)
theorem wa_5_t : ∀ w ∈ wa_5, w ∈ lw_tbl := by
  have h : (wa_5.all fun w => decide (w ∈ lw_tbl)) = true := by decide +kernel
  exact fun w hw => of_decide_eq_true (List.all_eq_true.mp h w hw)
theorem wa_6_t : ∀ w ∈ wa_6, w ∈ lw_tbl := by
  have h : (wa_6.all fun w => decide (w ∈ lw_tbl)) = true := by decide +kernel
  exact fun w hw => of_decide_eq_true (List.all_eq_true.mp h w hw)
theorem wa_7_t : ∀ w ∈ wa_7, w ∈ lw_tbl := by
  have h : (wa_7.all fun w => decide (w ∈ lw_tbl)) = true := by decide +kernel
  exact fun w hw => of_decide_eq_true (List.all_eq_true.mp h w hw)
theorem wa_8_t : ∀ w ∈ wa_8, w ∈ lw_tbl := by
  have h : (wa_8.all fun w => decide (w ∈ lw_tbl)) = true := by decide +kernel
  exact fun w hw => of_decide_eq_true (List.all_eq_true.mp h w hw)
theorem wa_9_t : ∀ w ∈ wa_9, w ∈ lw_tbl := by
  have h : (wa_9.all fun w => decide (w ∈ lw_tbl)) = true := by decide +kernel
  exact fun w hw => of_decide_eq_true (List.all_eq_true.mp h w hw)
theorem wa_10_t : ∀ w ∈ wa_10, w ∈ lw_tbl := by
  have h : (wa_10.all fun w => decide (w ∈ lw_tbl)) = true := by decide +kernel
  exact fun w hw => of_decide_eq_true (List.all_eq_true.mp h w hw)
theorem wa_11_t : ∀ w ∈ wa_11, w ∈ lw_tbl := by
  have h : (wa_11.all fun w => decide (w ∈ lw_tbl)) = true := by decide +kernel
  exact fun w hw => of_decide_eq_true (List.all_eq_true.mp h w hw)
theorem wa_tbl : ∀ w ∈ wa_all, w ∈ lw_tbl := List.forall_mem_append.mpr ⟨wa_0_t, List.forall_mem_append.mpr ⟨wa_1_t, List.forall_mem_append.mpr ⟨wa_2_t, List.forall_mem_append.mpr ⟨wa_3_t, List.forall_mem_append.mpr ⟨wa_4_t, List.forall_mem_append.mpr ⟨wa_5_t, List.forall_mem_append.mpr ⟨wa_6_t, List.forall_mem_append.mpr ⟨wa_7_t, List.forall_mem_append.mpr ⟨wa_8_t, List.forall_mem_append.mpr ⟨wa_9_t, List.forall_mem_append.mpr ⟨wa_10_t, wa_11_t⟩⟩⟩⟩⟩⟩⟩⟩⟩⟩⟩
