/-! the law's start -/
theorem adr_at {w : va_W} {f : Nat → Nat} {n i : Nat} (ha : w.map (fun q => q.1) = (List.range n).map f) (hi : i < n) : ∃ e : va_E, w[i]? = some (f i, e) := by
  have h1 : (w.map (fun q => q.1))[i]? = some (f i) := by rw [ha, List.getElem?_map, List.getElem?_range hi]; rfl
  rw [List.getElem?_map] at h1
  cases h2 : w[i]? with
  | none => rw [h2] at h1; cases h1
  | some q =>
    rw [h2] at h1
    obtain ⟨a, e⟩ := q
    exact ⟨e, by rw [show f i = a from (Option.some.inj h1).symm]⟩
theorem va_Pl {D : va_G} {cl : List vw_C} {w1 w2 : va_W} {H : Heap} (h : va_P D cl (w1 ++ w2) H) : va_P D cl w1 H := fun k q hk => h k q (by rw [List.getElem?_append_left (List.getElem?_eq_some_iff.mp hk).1]; exact hk)
theorem va_Pr {D : va_G} {cl : List vw_C} {w1 w2 : va_W} {H : Heap} (h : va_P D cl (w1 ++ w2) H) : va_P D cl w2 H := fun k q hk => h (w1.length + k) q (by rw [List.getElem?_append_right (by omega), Nat.add_sub_cancel_left]; exact hk)
def lw_D (cG cM : ClassId) (iG iM : Nat → Nat) : va_G := (fun c => match c with | 0 => cG | _ => cM, fun c => match c with | 0 => iG | _ => iM)
theorem lw_DK {s : State} {cG cM : ClassId} {iG iM : Nat → Nat} (h1 : u_Kn s R_G F_G 12 cG iG) (h2 : u_Kn s R_M F_M 11 cM iM) : va_K (lw_D cG cM iG iM) cl_all [] s := by
  refine ⟨fun c q hq => ?_, fun k q hk => by cases hk⟩
  have hl : c < 2 := (List.getElem?_eq_some_iff.mp hq).1
  rcases (show c = 0 ∨ c = 1 by omega) with rfl | rfl
  · cases hq
    exact h1
  · cases hq
    exact h2
theorem xs_Tof {s : State} {b : Nat} (hts : ∀ w ∈ lw_tbl, w.before #[Value.ref b] s = true) (hgv : (Jvm.Cond.and given_1 narrow_1).before #[Value.ref b] s = true) : xs_T s := by
  have hn := flat_of_before _ hgv
  refine ⟨fun w hw A => ?_, fun k hk => ?_⟩
  · simp only [xs_W, List.mem_cons, List.not_mem_nil, or_false] at hw
    rcases hw with rfl | rfl | rfl | rfl | rfl | rfl | rfl | rfl | rfl | rfl
    · exact hts (.laysStatic "java/lang/Throwable" "UNASSIGNED_STACK" "[Ljava/lang/StackTraceElement;") (by decide +kernel)
    · exact hts (.laysStatic "java/lang/Throwable" "SUPPRESSED_SENTINEL" "Ljava/util/List;") (by decide +kernel)
    · exact hn (.isRef (.static "java/lang/Throwable" "UNASSIGNED_STACK" "[Ljava/lang/StackTraceElement;")) (by decide +kernel)
    · exact hn (.isRef (.static "java/lang/Throwable" "SUPPRESSED_SENTINEL" "Ljava/util/List;")) (by decide +kernel)
    · exact va_any rfl (hts (.declares ⟨"java/lang/RuntimeException", "<init>", "(Ljava/lang/String;)V"⟩) (by decide +kernel))
    · exact va_any rfl (hts (.declares ⟨"java/lang/Exception", "<init>", "(Ljava/lang/String;)V"⟩) (by decide +kernel))
    · exact va_any rfl (hts (.declares ⟨"java/lang/Throwable", "<init>", "(Ljava/lang/String;)V"⟩) (by decide +kernel))
    · exact va_any rfl (hts (.castable "java/lang/IllegalArgumentException" "java/lang/IllegalArgumentException") (by decide +kernel))
    · exact va_any rfl (hts (.castable "java/lang/IllegalStateException" "java/lang/IllegalStateException") (by decide +kernel))
    · exact va_any rfl (hts (.castable "java/lang/IndexOutOfBoundsException" "java/lang/IndexOutOfBoundsException") (by decide +kernel))
  · have key : ∀ (i : Nat) (t : String), (Cond.stringRef R_G i t).before #[Value.ref b] s = true → ∃ q, vk_R R_G i t q s := by
      intro i t h
      have hcur : ∃ cur, s.vm.findClass R_G = some cur := by
        have h1 := h
        simp only [Cond.before, Cond.holds, Cond.value] at h1
        cases hc : s.vm.findClass R_G with
        | none => simp [hc] at h1
        | some cur => exact ⟨cur, rfl⟩
      obtain ⟨cur, hcur⟩ := hcur
      have h2 : (Cond.stringRef R_G i t).before #[] s = true := h
      obtain ⟨k, cf, i2, a, -, -, -, -, -, h3⟩ := Cond.stringRef_spec hcur h2
      exact ⟨a, vk_R.of h2 h3⟩
    simp only [xs_L, List.mem_cons, List.not_mem_nil, or_false] at hk
    rcases hk with rfl | rfl | rfl | rfl | rfl
    · exact key _ _ (hts _ (by decide +kernel))
    · exact key _ _ (hts _ (by decide +kernel))
    · exact key _ _ (hts _ (by decide +kernel))
    · exact key _ _ (hts _ (by decide +kernel))
    · exact key _ _ (hts _ (by decide +kernel))
theorem hq_Nof {s : State} {b : Nat} (hgv : (Jvm.Cond.and given_1 narrow_1).before #[Value.ref b] s = true) : hq_N s := by
  have hn := flat_of_before _ hgv
  exact ⟨va_Nc.of (hn (.not (.castable "java/lang/IllegalStateException" "java/lang/IllegalArgumentException")) (by decide +kernel)), va_Nc.of (hn (.not (.castable "java/lang/IllegalStateException" "java/lang/IndexOutOfBoundsException")) (by decide +kernel))⟩
