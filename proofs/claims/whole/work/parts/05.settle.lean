/-! a new object -/
def ss_n (n : Nat) : Nat := if n ≤ 16 then sz_f n else bk_f n * 32
def st_ob (ob : Nat → Nat) (a z : Nat) : Nat → Nat := fun j => if a ≤ j ∧ j < a + z then a + 1 else ob j
def st_kd (kd : Nat → Nat) (a z n : Nat) : Nat → Nat := fun b => if a / 32 ≤ b ∧ 32 * b < a + z then (if n ≤ 16 then z else if b = a / 32 then 32 else 33) else kd b
def st_df (df : Nat → Bool) (a z : Nat) : Nat → Bool := fun b => if a / 32 ≤ b ∧ 32 * b < a + z then false else df b
theorem ss_s {n : Nat} (h : n ≤ 16) : ss_n n = sz_f n := by unfold ss_n; rw [if_pos h]
theorem ss_g {n : Nat} (h : ¬ n ≤ 16) : ss_n n = bk_f n * 32 := by unfold ss_n; rw [if_neg h]
/-- what is known of a room that was found -/
def rm_ok (ob kd : Nat → Nat) (n a : Nat) : Prop := a + ss_n n ≤ 512 ∧ a % 2 = 0 ∧ 2 ≤ ss_n n ∧ (∀ j, a ≤ j → j < a + ss_n n → ob j = 0) ∧
  ((n ≤ 16 ∧ ss_n n = sz_f n ∧ a % ss_n n = 0 ∧ (kd (a / 32) = 0 ∨ kd (a / 32) = ss_n n)) ∨ (¬ n ≤ 16 ∧ a % 32 = 0 ∧ ss_n n = bk_f n * 32 ∧ ∀ b, a / 32 ≤ b → 32 * b < a + ss_n n → kd b = 0))
theorem rm_fact {ob ln kd : Nat → Nat} {df : Nat → Bool} {f : Bool} {n : Nat} (ho : iv_o ob ln kd) (hf : iv_f ob kd) (h1 : 1 ≤ n) (h : rm_n ob kd df n f < 512) : rm_ok ob kd n (rm_n ob kd df n f) := by
  by_cases hn : n ≤ 16
  · have hs := sz_is n
    have hz := ss_s hn
    unfold rm_n at h ⊢
    rw [if_pos hn] at h ⊢
    by_cases hr : rm_s ob kd (sz_f n) < 512
    · rw [if_pos hr] at h ⊢
      obtain ⟨k1, k2⟩ := rm_si hr
      have k3 := rm_sa ho hs hr
      generalize rm_s ob kd (sz_f n) = r at hr h k1 k2 k3 ⊢
      unfold rm_ok
      rw [hz]
      generalize sz_f n = z at hs k1 k3 hz ⊢
      refine ⟨?_, ?_, ?_, fun j j1 j2 => iv_slot ho hr hs k1 k2 ?_, Or.inl ⟨hn, rfl, k3, Or.inr k1⟩⟩
      · rcases hs with e | e | e | e <;> subst e <;> omega
      · rcases hs with e | e | e | e <;> subst e <;> omega
      · rcases hs with e | e | e | e <;> subst e <;> omega
      · rcases hs with e | e | e | e <;> subst e <;> omega
    · rw [if_neg hr] at h ⊢
      have hb : rm_b kd df f 1 < 16 := by omega
      have k1 := (rm_bi hb).2 0 (by omega)
      rw [Nat.add_zero] at k1
      generalize rm_b kd df f 1 = b at h hb k1 ⊢
      have e0 : 32 * b / 32 = b := by omega
      unfold rm_ok
      rw [hz, e0]
      generalize sz_f n = z at hs hz ⊢
      refine ⟨?_, by omega, ?_, fun j j1 j2 => hf j ?_ ?_, Or.inl ⟨hn, rfl, ?_, Or.inl k1⟩⟩
      · rcases hs with e | e | e | e <;> subst e <;> omega
      · rcases hs with e | e | e | e <;> subst e <;> omega
      · rcases hs with e | e | e | e <;> subst e <;> omega
      · have e1 : j / 32 = b := by rcases hs with e | e | e | e <;> subst e <;> omega
        rw [e1]
        exact k1
      · rcases hs with e | e | e | e <;> subst e <;> omega
  · have hz := ss_g hn
    unfold rm_n at h ⊢
    rw [if_neg hn] at h ⊢
    have hb : rm_b kd df f (bk_f n) < 16 := by omega
    obtain ⟨k1, k2⟩ := rm_bi hb
    generalize rm_b kd df f (bk_f n) = b at h hb k1 k2 ⊢
    have e0 : 32 * b / 32 = b := by omega
    have hc : 1 ≤ bk_f n := by unfold bk_f; omega
    unfold rm_ok
    rw [hz, e0]
    generalize hcc : bk_f n = k at k1 k2 hc ⊢
    refine ⟨by omega, by omega, by omega, fun j j1 j2 => hf j (by omega) ?_, Or.inr ⟨hn, by omega, rfl, fun b' b1 b2 => ?_⟩⟩
    · have e1 := k2 (j / 32 - b) (by omega)
      rwa [show b + (j / 32 - b) = j / 32 by omega] at e1
    · have e1 := k2 (b' - b) (by omega)
      rwa [show b + (b' - b) = b' by omega] at e1
theorem st_in {ob : Nat → Nat} {a z j : Nat} (h : a ≤ j ∧ j < a + z) : st_ob ob a z j = a + 1 := if_pos h
theorem st_out {ob : Nat → Nat} {a z j : Nat} (h : ¬ (a ≤ j ∧ j < a + z)) : st_ob ob a z j = ob j := if_neg h
theorem st_cnt {ob kd : Nat → Nat} {n a : Nat} (h : rm_ok ob kd n a) : iv_c (st_ob ob a (ss_n n)) = iv_c ob + 1 := by
  obtain ⟨r1, r2, r3, r4, -⟩ := h
  unfold iv_c
  refine cn_set (k := a) (cl_f.mpr ?_) (cl_t.mpr ?_) 512 (by omega) (fun i hi hne => cl_e ?_)
  · rw [r4 a (Nat.le_refl _) (by omega)]
    omega
  · exact st_in ⟨Nat.le_refl _, by omega⟩
  · by_cases hin : a ≤ i ∧ i < a + ss_n n
    · rw [st_in hin, r4 i hin.1 hin.2]
      omega
    · rw [st_out hin]
theorem st_iv {ob ln kd : Nat → Nat} {wd : Nat → Int32} {oc n a : Nat} (hv : iv_a ob ln kd wd oc) (h1 : 1 ≤ n) (h : rm_ok ob kd n a) :
    iv_a (st_ob ob a (ss_n n)) (va_up ln a (ss_n n)) (st_kd kd a (ss_n n) n) wd (oc + 1) := by
  obtain ⟨ho, hk, hf, hl, hw, hc⟩ := hv
  have hcnt := st_cnt h
  obtain ⟨r1, r2, r3, r4, r5⟩ := h
  have hz16 : n ≤ 16 → ss_n n = 2 ∨ ss_n n = 4 ∨ ss_n n = 8 ∨ ss_n n = 16 := fun hn => by rw [ss_s hn]; exact sz_is n
  generalize hz : ss_n n = z at r1 r3 r4 r5 hcnt hz16 ⊢
  -- the kind of a block in which an old object lies
  have kold : ∀ i, i < 512 → ob i ≠ 0 → st_kd kd a z n (i / 32) = kd (i / 32) := by
    intro i hi hne
    unfold st_kd
    by_cases hb : a / 32 ≤ i / 32 ∧ 32 * (i / 32) < a + z
    · rw [if_pos hb]
      rcases r5 with ⟨s1, s2, s3, s4⟩ | ⟨s1, s2, s3, s4⟩
      · rw [if_pos s1]
        have e : i / 32 = a / 32 := by
          have := hz16 s1
          rcases this with e | e | e | e <;> subst e <;> omega
        rw [e]
        rcases s4 with q | q
        · exact absurd (hf i hi (by rw [e]; exact q)) hne
        · exact q.symm
      · exact absurd (hf i hi (s4 _ hb.1 hb.2)) hne
    · rw [if_neg hb]
  have klarge : ∀ b, b < 16 → 32 ≤ kd b → st_kd kd a z n b = kd b := by
    intro b hb h32
    have e : b = (32 * b) / 32 := by omega
    have := kold (32 * b) (by omega) (hl _ (by omega) (by rw [← e]; exact h32))
    rwa [← e] at this
  refine ⟨?_, ?_, ?_, ?_, ?_, by rw [hcnt, hc]⟩
  · intro i hi p hp
    by_cases hin : a ≤ i ∧ i < a + z
    · rw [st_in hin] at hp
      have e : a = p := by omega
      subst e
      have el : va_up ln a z a = z := va_up_self ln a z
      rw [el]
      refine ⟨hin.1, hin.2, r1, r2, fun j j1 j2 => st_in ⟨j1, j2⟩, ?_⟩
      have hka : ∀ b, a / 32 ≤ b → 32 * b < a + z → st_kd kd a z n b = (if n ≤ 16 then z else if b = a / 32 then 32 else 33) := fun b b1 b2 => if_pos ⟨b1, b2⟩
      rcases r5 with ⟨s1, s2, s3, s4⟩ | ⟨s1, s2, s3, s4⟩
      · refine Or.inl ⟨?_, hz16 s1, s3⟩
        rw [hka (a / 32) (Nat.le_refl _) (by omega), if_pos s1]
      · refine Or.inr ⟨?_, s2, by omega, fun b b1 b2 => ?_⟩
        · rw [hka (a / 32) (Nat.le_refl _) (by omega), if_neg s1, if_pos rfl]
        · rw [hka b (by omega) (by omega), if_neg s1, if_neg (by omega)]
    · rw [st_out hin] at hp
      obtain ⟨a1, a2, a3, a4, a5, a6⟩ := ho i hi p hp
      have hpp : ob p = p + 1 := a5 p (Nat.le_refl _) (by omega)
      have hne : p ≠ a := by
        intro e
        subst e
        have := r4 p (Nat.le_refl _) (by omega)
        omega
      have el : va_up ln a z p = ln p := va_up_ne ln z hne
      rw [el]
      have kp := kold p (by omega) (by omega)
      refine ⟨a1, a2, a3, a4, fun j j1 j2 => ?_, ?_⟩
      · have h5 := a5 j j1 j2
        rw [st_out]
        · exact h5
        · intro q
          have := r4 j q.1 q.2
          omega
      · rw [kp]
        rcases a6 with ⟨b1, b2, b3⟩ | ⟨b1, b2, b3, b4⟩
        · exact Or.inl ⟨b1, b2, b3⟩
        · refine Or.inr ⟨b1, b2, b3, fun b c1 c2 => ?_⟩
          have e := b4 b c1 c2
          rw [klarge b (by omega) (by rw [e]; omega)]
          exact e
  · intro b hb
    unfold st_kd
    split
    · split
      · rename_i s1
        rcases hz16 s1 with e | e | e | e <;> simp [e]
      · split <;> simp
    · exact hk b hb
  · intro i hi h0
    by_cases hin : a ≤ i ∧ i < a + z
    · exfalso
      have e : st_kd kd a z n (i / 32) = (if n ≤ 16 then z else if i / 32 = a / 32 then 32 else 33) := if_pos ⟨by omega, by omega⟩
      rw [e] at h0
      split at h0
      · omega
      · split at h0 <;> omega
    · rw [st_out hin]
      by_cases hne : ob i = 0
      · exact hne
      · rw [kold i hi hne] at h0
        exact hf i hi h0
  · intro i hi h32
    by_cases hin : a ≤ i ∧ i < a + z
    · rw [st_in hin]
      omega
    · rw [st_out hin]
      by_cases hb : a / 32 ≤ i / 32 ∧ 32 * (i / 32) < a + z
      · exfalso
        have e : st_kd kd a z n (i / 32) = (if n ≤ 16 then z else if i / 32 = a / 32 then 32 else 33) := if_pos hb
        rcases r5 with ⟨s1, s2, s3, s4⟩ | ⟨s1, s2, s3, s4⟩
        · rw [e, if_pos s1] at h32
          rcases hz16 s1 with e | e | e | e <;> omega
        · omega
      · have e : st_kd kd a z n (i / 32) = kd (i / 32) := if_neg hb
        rw [e] at h32
        exact hl i hi h32
  · intro i hi h0
    by_cases hin : a ≤ i ∧ i < a + z
    · exact hw i hi (r4 i hin.1 hin.2)
    · rw [st_out hin] at h0
      exact hw i hi h0
