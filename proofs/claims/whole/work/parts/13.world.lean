/-! the worlds of the class and of the reference: cells at fixed addresses -/
theorem hg_all : GoodIn wa_all wa_all := wg_all (by decide +kernel)
theorem in_G : ∀ w ∈ u_ws R_G F_G 12, w ∈ wa_all := by
  intro w hw
  have e : u_ws R_G F_G 12 = [.laysFinal R_G R_G "roots" "[I", .laysFinal R_G R_G "kinds" "[I", .laysFinal R_G R_G "doubtful" "[Z", .laysFinal R_G R_G "words" "[I", .laysFinal R_G R_G "starts" "[I", .laysFinal R_G R_G "lengths" "[I", .laysFinal R_G R_G "unread" "[Z", .laysFinal R_G R_G "marked" "[Z", .laysFinal R_G R_G "found" "[I", .lays R_G R_G "foundCount" "I", .lays R_G R_G "objectCount" "I", .lays R_G R_G "collectionCount" "I"] := rfl
  rw [e] at hw
  simp only [List.mem_cons, List.not_mem_nil, or_false] at hw
  rcases hw with rfl | rfl | rfl | rfl | rfl | rfl | rfl | rfl | rfl | rfl | rfl | rfl
  · exact wm_67
  · exact wm_69
  · exact wm_71
  · exact wm_73
  · exact wm_75
  · exact wm_77
  · exact wm_79
  · exact wm_81
  · exact wm_83
  · exact wm_85
  · exact wm_87
  · exact wm_89
theorem in_M : ∀ w ∈ u_ws R_M F_M 11, w ∈ wa_all := by
  intro w hw
  have e : u_ws R_M F_M 11 = [.lays R_M R_M "thrown" "I", .lays R_M R_M "roots" "[I", .lays R_M R_M "word" "[I", .lays R_M R_M "of" "[I", .lays R_M R_M "many" "[I", .lays R_M R_M "quiet" "[Z", .lays R_M R_M "marked" "[Z", .lays R_M R_M "kind" "[I", .lays R_M R_M "doubtful" "[Z", .lays R_M R_M "collected" "I", .lays R_M R_M "given" "I"] := rfl
  rw [e] at hw
  simp only [List.mem_cons, List.not_mem_nil, or_false] at hw
  rcases hw with rfl | rfl | rfl | rfl | rfl | rfl | rfl | rfl | rfl | rfl | rfl
  · exact wm_357
  · exact wm_359
  · exact wm_361
  · exact wm_363
  · exact wm_365
  · exact wm_367
  · exact wm_369
  · exact wm_371
  · exact wm_373
  · exact wm_375
  · exact wm_377
def gw_G (ca : Nat → ClassId) (hs : Nat → Nat) (rt wd : Nat → Int32) (ob ln kd : Nat → Nat) (qt df mk : Nat → Bool) (fd : Nat → Nat) (fc oc cn : Nat) : va_W :=
  [(hs 0, .inr (0, [.ref (hs 1), .ref (hs 2), .ref (hs 3), .ref (hs 4), .ref (hs 5), .ref (hs 6), .ref (hs 7), .ref (hs 8), .ref (hs 9), .int (nI fc), .int (nI oc), .int (nI cn)])),
   (hs 1, .inl (ca 1, 8, .inl rt)),
   (hs 2, .inl (ca 2, 16, .inl (fun j => nI (kd j)))),
   (hs 3, .inl (ca 3, 16, .inl (fun j => zb_e (df j)))),
   (hs 4, .inl (ca 4, 512, .inl wd)),
   (hs 5, .inl (ca 5, 512, .inl (fun j => zs_e (ob j)))),
   (hs 6, .inl (ca 6, 512, .inl (fun j => nI (ln j)))),
   (hs 7, .inl (ca 7, 512, .inl (fun j => zb_e (qt j)))),
   (hs 8, .inl (ca 8, 512, .inl (fun j => zb_e (mk j)))),
   (hs 9, .inl (ca 9, 256, .inl (fun j => nI (fd j))))]
def ty_G (ca : Nat → ClassId) : List (ClassId × FieldType) := [(ca 1, .int), (ca 2, .int), (ca 3, .boolean), (ca 4, .int), (ca 5, .int), (ca 6, .int), (ca 7, .boolean), (ca 8, .boolean), (ca 9, .int)]
def gw_M (ca : Nat → ClassId) (hs : Nat → Nat) (rt wd : Nat → Int32) (ob ln kd : Nat → Nat) (qt df mk : Nat → Bool) (th cn gv : Nat) : va_W :=
  [(hs 0, .inr (1, [.int (nI th), .ref (hs 1), .ref (hs 2), .ref (hs 3), .ref (hs 4), .ref (hs 5), .ref (hs 6), .ref (hs 7), .ref (hs 8), .int (nI cn), .int (nI gv)])),
   (hs 1, .inl (ca 1, 8, .inl rt)),
   (hs 2, .inl (ca 2, 512, .inl wd)),
   (hs 3, .inl (ca 3, 512, .inl (fun j => nI (ob j)))),
   (hs 4, .inl (ca 4, 512, .inl (fun j => nI (ln j)))),
   (hs 5, .inl (ca 5, 512, .inl (fun j => zb_e (qt j)))),
   (hs 6, .inl (ca 6, 512, .inl (fun j => zb_e (mk j)))),
   (hs 7, .inl (ca 7, 16, .inl (fun j => nI (kd j)))),
   (hs 8, .inl (ca 8, 16, .inl (fun j => zb_e (df j))))]
def ty_M (ca : Nat → ClassId) : List (ClassId × FieldType) := [(ca 1, .int), (ca 2, .int), (ca 3, .int), (ca 4, .int), (ca 5, .boolean), (ca 6, .boolean), (ca 7, .int), (ca 8, .boolean)]
theorem gw_G_in {ca : Nat → ClassId} {hs : Nat → Nat} {rt wd : Nat → Int32} {ob ln kd : Nat → Nat} {qt df mk : Nat → Bool} {fd : Nat → Nat} {fc oc cn : Nat} : ∀ (k : Nat) (q : Nat × va_E), (gw_G ca hs rt wd ob ln kd qt df mk fd fc oc cn)[k]? = some q → gx_A hs 10 q.1 := by
  intro k q h
  have hm := List.mem_of_getElem? h
  unfold gw_G at hm
  simp only [List.mem_cons, List.not_mem_nil, or_false] at hm
  rcases hm with rfl | rfl | rfl | rfl | rfl | rfl | rfl | rfl | rfl | rfl
  · exact ⟨0, by decide, rfl⟩
  · exact ⟨1, by decide, rfl⟩
  · exact ⟨2, by decide, rfl⟩
  · exact ⟨3, by decide, rfl⟩
  · exact ⟨4, by decide, rfl⟩
  · exact ⟨5, by decide, rfl⟩
  · exact ⟨6, by decide, rfl⟩
  · exact ⟨7, by decide, rfl⟩
  · exact ⟨8, by decide, rfl⟩
  · exact ⟨9, by decide, rfl⟩
theorem gw_M_in {ca : Nat → ClassId} {hs : Nat → Nat} {rt wd : Nat → Int32} {ob ln kd : Nat → Nat} {qt df mk : Nat → Bool} {th cn gv : Nat} : ∀ (k : Nat) (q : Nat × va_E), (gw_M ca hs rt wd ob ln kd qt df mk th cn gv)[k]? = some q → gx_A hs 9 q.1 := by
  intro k q h
  have hm := List.mem_of_getElem? h
  unfold gw_M at hm
  simp only [List.mem_cons, List.not_mem_nil, or_false] at hm
  rcases hm with rfl | rfl | rfl | rfl | rfl | rfl | rfl | rfl | rfl
  · exact ⟨0, by decide, rfl⟩
  · exact ⟨1, by decide, rfl⟩
  · exact ⟨2, by decide, rfl⟩
  · exact ⟨3, by decide, rfl⟩
  · exact ⟨4, by decide, rfl⟩
  · exact ⟨5, by decide, rfl⟩
  · exact ⟨6, by decide, rfl⟩
  · exact ⟨7, by decide, rfl⟩
  · exact ⟨8, by decide, rfl⟩
theorem gw_G_adr {ca : Nat → ClassId} {hs : Nat → Nat} {rt wd : Nat → Int32} {ob ln kd : Nat → Nat} {qt df mk : Nat → Bool} {fd : Nat → Nat} {fc oc cn : Nat} : (gw_G ca hs rt wd ob ln kd qt df mk fd fc oc cn).map (fun q => q.1) = [hs 0, hs 1, hs 2, hs 3, hs 4, hs 5, hs 6, hs 7, hs 8, hs 9] := rfl
theorem gw_M_adr {ca : Nat → ClassId} {hs : Nat → Nat} {rt wd : Nat → Int32} {ob ln kd : Nat → Nat} {qt df mk : Nat → Bool} {th cn gv : Nat} : (gw_M ca hs rt wd ob ln kd qt df mk th cn gv).map (fun q => q.1) = [hs 0, hs 1, hs 2, hs 3, hs 4, hs 5, hs 6, hs 7, hs 8] := rfl
