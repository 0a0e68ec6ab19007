/-! the row of blocks that is counted -/
def fb_I (kd : Nat → Nat) (df : Nat → Bool) (f : Bool) (c b r : Nat) : Prop := r < c ∧ r ≤ b ∧ (∀ j, b ≤ j + r → j < b → us_b kd df f j = true) ∧ (r < b → us_b kd df f (b - r - 1) = false) ∧ ∀ s, s + c ≤ b → rn_b kd df f c s = false
theorem fb_0 {kd : Nat → Nat} {df : Nat → Bool} {f : Bool} {c : Nat} (hc : 1 ≤ c) : fb_I kd df f c 0 0 := ⟨hc, Nat.le_refl _, fun j _ h => by omega, fun h => by omega, fun s h => by omega⟩
theorem fb_no {kd : Nat → Nat} {df : Nat → Bool} {f : Bool} {c b r : Nat} (h : fb_I kd df f c b r) (hu : us_b kd df f b = false) : fb_I kd df f c (b + 1) 0 := by
  obtain ⟨h1, h2, h3, h4, h5⟩ := h
  refine ⟨by omega, by omega, fun j q1 q2 => by omega, fun _ => by rw [show b + 1 - 0 - 1 = b by omega]; exact hu, fun s hs => ?_⟩
  by_cases e : s + c ≤ b
  · exact h5 s e
  · refine cl_f.mpr (fun q => ?_)
    have := q.2 (b - s) (by omega)
    rw [show s + (b - s) = b by omega, hu] at this
    cases this
theorem fb_yes {kd : Nat → Nat} {df : Nat → Bool} {f : Bool} {c b r : Nat} (h : fb_I kd df f c b r) (hu : us_b kd df f b = true) (hr : r + 1 < c) : fb_I kd df f c (b + 1) (r + 1) := by
  obtain ⟨h1, h2, h3, h4, h5⟩ := h
  refine ⟨hr, by omega, fun j q1 q2 => ?_, fun q => ?_, fun s hs => ?_⟩
  · by_cases e : j = b
    · subst e
      exact hu
    · exact h3 j (by omega) (by omega)
  · rw [show b + 1 - (r + 1) - 1 = b - r - 1 by omega]
    exact h4 (by omega)
  · by_cases e : s + c ≤ b
    · exact h5 s e
    · refine cl_f.mpr (fun q => ?_)
      have hb : r < b := by omega
      have h6 := h4 hb
      have := q.2 (b - r - 1 - s) (by omega)
      rw [show s + (b - r - 1 - s) = b - r - 1 by omega, h6] at this
      cases this
theorem fb_hit {kd : Nat → Nat} {df : Nat → Bool} {f : Bool} {c b r : Nat} (h : fb_I kd df f c b r) (hu : us_b kd df f b = true) (hr : r + 1 = c) (hb : b < 16) : rm_b kd df f c = b + 1 - c := by
  obtain ⟨h1, h2, h3, h4, h5⟩ := h
  refine le_eq (by omega) (cl_t.mpr ⟨by omega, fun j hj => ?_⟩) (fun j hj => h5 j (by omega))
  by_cases e : b + 1 - c + j = b
  · rw [e]
    exact hu
  · exact h3 _ (by omega) (by omega)
theorem fb_end {kd : Nat → Nat} {df : Nat → Bool} {f : Bool} {c r : Nat} (h : fb_I kd df f c 16 r) : rm_b kd df f c = 16 := by
  refine le_no (fun j hj => ?_)
  by_cases e : j + c ≤ 16
  · exact h.2.2.2.2 j e
  · exact cl_f.mpr (fun q => e q.1)
