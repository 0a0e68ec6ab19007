/-! giving up, object by object -/
def gu_ob (ob : Nat → Nat) (mk : Nat → Bool) (n : Nat) : Nat → Nat := fun i => if ob i ≠ 0 ∧ ob i - 1 < n ∧ mk (ob i - 1) = false then 0 else ob i
def gu_wd (wd : Nat → Int32) (ob : Nat → Nat) (mk : Nat → Bool) (n : Nat) : Nat → Int32 := fun i => if ob i ≠ 0 ∧ ob i - 1 < n ∧ mk (ob i - 1) = false then 0 else wd i
theorem gu_0 (ob : Nat → Nat) (mk : Nat → Bool) (i : Nat) : gu_ob ob mk 0 i = ob i := by
  unfold gu_ob
  rw [if_neg (by omega)]
theorem gu_w0 (wd : Nat → Int32) (ob : Nat → Nat) (mk : Nat → Bool) (i : Nat) : gu_wd wd ob mk 0 i = wd i := by
  unfold gu_wd
  rw [if_neg (by omega)]
theorem gu_at {ob : Nat → Nat} {mk : Nat → Bool} {n : Nat} : gu_ob ob mk n n = n + 1 ↔ ob n = n + 1 := by
  unfold gu_ob
  split
  · rename_i h
    constructor
    · intro q; omega
    · intro q; omega
  · exact Iff.rfl
/-- nothing is given up at n -/
theorem gu_no {ob ln kd : Nat → Nat} (ho : iv_o ob ln kd) {mk : Nat → Bool} {n : Nat} (h : ¬ (ob n = n + 1 ∧ mk n = false)) {i : Nat} (hi : i < 512) : (ob i ≠ 0 ∧ ob i - 1 < n + 1 ∧ mk (ob i - 1) = false) ↔ (ob i ≠ 0 ∧ ob i - 1 < n ∧ mk (ob i - 1) = false) := by
  constructor
  · intro ⟨q1, q2, q3⟩
    refine ⟨q1, ?_, q3⟩
    by_cases e : ob i - 1 = n
    · exfalso
      have hp := (iv_st ho hi (p := n) (by omega)).2.1
      rw [e] at q3
      exact h ⟨hp, q3⟩
    · omega
  · intro ⟨q1, q2, q3⟩
    exact ⟨q1, by omega, q3⟩
theorem gu_nob {ob ln kd : Nat → Nat} (ho : iv_o ob ln kd) {mk : Nat → Bool} {n : Nat} (h : ¬ (ob n = n + 1 ∧ mk n = false)) {i : Nat} (hi : i < 512) : gu_ob ob mk (n + 1) i = gu_ob ob mk n i := by
  unfold gu_ob
  have e := gu_no ho h hi
  by_cases q : ob i ≠ 0 ∧ ob i - 1 < n ∧ mk (ob i - 1) = false
  · rw [if_pos q, if_pos (e.mpr q)]
  · rw [if_neg q, if_neg (fun z => q (e.mp z))]
theorem gu_nwd {ob ln kd : Nat → Nat} {wd : Nat → Int32} (ho : iv_o ob ln kd) {mk : Nat → Bool} {n : Nat} (h : ¬ (ob n = n + 1 ∧ mk n = false)) {i : Nat} (hi : i < 512) : gu_wd wd ob mk (n + 1) i = gu_wd wd ob mk n i := by
  unfold gu_wd
  have e := gu_no ho h hi
  by_cases q : ob i ≠ 0 ∧ ob i - 1 < n ∧ mk (ob i - 1) = false
  · rw [if_pos q, if_pos (e.mpr q)]
  · rw [if_neg q, if_neg (fun z => q (e.mp z))]
/-- the object at n is given up -/
theorem gu_yes {ob ln kd : Nat → Nat} (ho : iv_o ob ln kd) {mk : Nat → Bool} {n : Nat} (hn : n < 512) (h1 : ob n = n + 1) (h2 : mk n = false) {i : Nat} (hi : i < 512) : (ob i ≠ 0 ∧ ob i - 1 < n + 1 ∧ mk (ob i - 1) = false) ↔ ((n ≤ i ∧ i < n + ln n) ∨ (ob i ≠ 0 ∧ ob i - 1 < n ∧ mk (ob i - 1) = false)) := by
  have h5 := (ho n hn n h1).2.2.2.2.1
  constructor
  · intro ⟨q1, q2, q3⟩
    by_cases e : ob i - 1 = n
    · have := ho i hi n (by omega)
      exact Or.inl ⟨this.1, this.2.1⟩
    · exact Or.inr ⟨q1, by omega, q3⟩
  · intro q
    rcases q with q | ⟨q1, q2, q3⟩
    · have e := h5 i q.1 q.2
      rw [e]
      exact ⟨by omega, by omega, by rw [show n + 1 - 1 = n by omega]; exact h2⟩
    · exact ⟨q1, by omega, q3⟩
theorem gu_yob {ob ln kd : Nat → Nat} (ho : iv_o ob ln kd) {mk : Nat → Bool} {n : Nat} (hn : n < 512) (h1 : ob n = n + 1) (h2 : mk n = false) {i : Nat} (hi : i < 512) : gu_ob ob mk (n + 1) i = if n ≤ i ∧ i < n + ln n then 0 else gu_ob ob mk n i := by
  have e := gu_yes ho hn h1 h2 hi
  unfold gu_ob
  by_cases q : n ≤ i ∧ i < n + ln n
  · rw [if_pos q, if_pos (e.mpr (Or.inl q))]
  · rw [if_neg q]
    by_cases q2 : ob i ≠ 0 ∧ ob i - 1 < n ∧ mk (ob i - 1) = false
    · rw [if_pos q2, if_pos (e.mpr (Or.inr q2))]
    · rw [if_neg q2, if_neg (fun z => (e.mp z).elim q q2)]
theorem gu_ywd {ob ln kd : Nat → Nat} {wd : Nat → Int32} (ho : iv_o ob ln kd) {mk : Nat → Bool} {n : Nat} (hn : n < 512) (h1 : ob n = n + 1) (h2 : mk n = false) {i : Nat} (hi : i < 512) : gu_wd wd ob mk (n + 1) i = if n ≤ i ∧ i < n + ln n then 0 else gu_wd wd ob mk n i := by
  have e := gu_yes ho hn h1 h2 hi
  unfold gu_wd
  by_cases q : n ≤ i ∧ i < n + ln n
  · rw [if_pos q, if_pos (e.mpr (Or.inl q))]
  · rw [if_neg q]
    by_cases q2 : ob i ≠ 0 ∧ ob i - 1 < n ∧ mk (ob i - 1) = false
    · rw [if_pos q2, if_pos (e.mpr (Or.inr q2))]
    · rw [if_neg q2, if_neg (fun z => (e.mp z).elim q q2)]
theorem gu_cy {ob ln kd : Nat → Nat} (ho : iv_o ob ln kd) {mk : Nat → Bool} {n : Nat} (hn : n < 512) (h1 : ob n = n + 1) (h2 : mk n = false) : iv_c (gu_ob ob mk n) = iv_c (gu_ob ob mk (n + 1)) + 1 := by
  unfold iv_c
  have hl := (ho n hn n h1).2.1
  refine cn_set (k := n) (cl_f.mpr ?_) (cl_t.mpr ?_) 512 hn (fun i hi hne => cl_e ?_)
  · rw [gu_yob ho hn h1 h2 hn, if_pos ⟨Nat.le_refl _, hl⟩]
    omega
  · exact gu_at.mpr h1
  · rw [gu_yob ho hn h1 h2 hi]
    by_cases q : n ≤ i ∧ i < n + ln n
    · rw [if_pos q]
      have e := (ho n hn n h1).2.2.2.2.1 i q.1 q.2
      unfold gu_ob
      rw [if_neg (by omega)]
      omega
    · rw [if_neg q]
theorem gu_cn {ob ln kd : Nat → Nat} (ho : iv_o ob ln kd) {mk : Nat → Bool} {n : Nat} (h : ¬ (ob n = n + 1 ∧ mk n = false)) : iv_c (gu_ob ob mk (n + 1)) = iv_c (gu_ob ob mk n) := cn_ext 512 (fun i hi => cl_e (by rw [gu_nob ho h hi]))
theorem gu_eob {ob ln kd : Nat → Nat} (ho : iv_o ob ln kd) {mk : Nat → Bool} {i : Nat} (hi : i < 512) : gu_ob ob mk 512 i = co_ob ob mk i := by
  have := iv_lt ho hi
  unfold gu_ob co_ob
  by_cases q : mk (ob i - 1) = true
  · rw [if_pos q, if_neg (by rw [q]; simp)]
  · rw [if_neg q]
    by_cases z : ob i = 0
    · rw [if_neg (by omega)]
      exact z
    · rw [if_pos ⟨z, by omega, cl_ft q⟩]
theorem gu_ewd {ob ln kd : Nat → Nat} {wd : Nat → Int32} (ho : iv_o ob ln kd) {mk : Nat → Bool} {i : Nat} (hi : i < 512) : gu_wd wd ob mk 512 i = co_wd wd ob mk i := by
  have := iv_lt ho hi
  unfold gu_wd co_wd
  by_cases q : ob i ≠ 0 ∧ mk (ob i - 1) = false
  · rw [if_pos q, if_pos ⟨q.1, by omega, q.2⟩]
  · rw [if_neg q, if_neg (fun z => q ⟨z.1, z.2.2⟩)]
theorem gu_c0 (ob : Nat → Nat) (mk : Nat → Bool) : iv_c (gu_ob ob mk 0) = iv_c ob := cn_ext 512 (fun i hi => cl_e (by rw [gu_0]))
theorem gu_ce {ob ln kd : Nat → Nat} (ho : iv_o ob ln kd) (mk : Nat → Bool) : iv_c (gu_ob ob mk 512) = iv_c (co_ob ob mk) := cn_ext 512 (fun i hi => cl_e (by rw [gu_eob ho hi]))
/-- the words of a block that are in no object -/
noncomputable def fw_n (ob : Nat → Nat) (b : Nat) : Nat := cn_t (fun j => cl_b (ob (32 * b + j) = 0)) 32
theorem fw_32 {ob : Nat → Nat} {b : Nat} : fw_n ob b = 32 ↔ co_br ob b := by
  constructor
  · intro h j hj
    cases hz : cl_b (ob (32 * b + j) = 0) with
    | true => exact cl_t.mp hz
    | false =>
      have := cn_lt (P := fun j => cl_b (ob (32 * b + j) = 0)) hz 32 hj
      unfold fw_n at h
      omega
  · intro h
    exact cn_all 32 (fun i hi => cl_t.mpr (h i hi))
/-- they are the words of the empty slots -/
noncomputable def es_n (ob kd : Nat → Nat) (b : Nat) : Nat := cn_t (fun t => cl_b (ob (32 * b + t * kd b) = 0)) (32 / kd b)
theorem es_eq {ob ln kd : Nat → Nat} (ho : iv_o ob ln kd) {b : Nat} (hb : b < 16) (hs : kd b = 2 ∨ kd b = 4 ∨ kd b = 8 ∨ kd b = 16) : fw_n ob b = es_n ob kd b * kd b := by
  unfold fw_n es_n
  have h32 : 32 = 32 / kd b * kd b := by rcases hs with e | e | e | e <;> rw [e]
  have key : ∀ t r, t < 32 / kd b → r < kd b → cl_b (ob (32 * b + (t * kd b + r)) = 0) = cl_b (ob (32 * b + t * kd b) = 0) := by
    intro t r ht hr
    refine cl_e ⟨fun h => ?_, fun h => ?_⟩
    · refine iv_slot ho (i := 32 * b + (t * kd b + r)) (s := kd b) ?_ hs ?_ h ?_
      · rcases hs with e | e | e | e <;> rw [e] at ht hr ⊢ <;> omega
      · congr 1
        rcases hs with e | e | e | e <;> rw [e] at ht hr ⊢ <;> omega
      · rcases hs with e | e | e | e <;> rw [e] at ht hr ⊢ <;> omega
    · refine iv_slot ho (i := 32 * b + t * kd b) (s := kd b) ?_ hs ?_ h ?_
      · rcases hs with e | e | e | e <;> rw [e] at ht hr ⊢ <;> omega
      · congr 1
        rcases hs with e | e | e | e <;> rw [e] at ht hr ⊢ <;> omega
      · rcases hs with e | e | e | e <;> rw [e] at ht hr ⊢ <;> omega
  have := cn_mul (P := fun t => cl_b (ob (32 * b + t * kd b) = 0)) (Q := fun j => cl_b (ob (32 * b + j) = 0)) (kd b) (32 / kd b) key
  rw [← h32] at this
  exact this
/-- the reference frees the blocks of a large object where it is given up -/
def gk_kd (kd ob : Nat → Nat) (mk : Nat → Bool) (n : Nat) : Nat → Nat := fun b => if 32 ≤ kd b ∧ ob (32 * b) ≠ 0 ∧ ob (32 * b) - 1 < n ∧ mk (ob (32 * b) - 1) = false then 0 else kd b
theorem gk_0 (kd ob : Nat → Nat) (mk : Nat → Bool) (b : Nat) : gk_kd kd ob mk 0 b = kd b := by
  unfold gk_kd
  rw [if_neg (by omega)]
theorem gk_n {ob ln kd : Nat → Nat} (ho : iv_o ob ln kd) {mk : Nat → Bool} {n : Nat} (h : ¬ (ob n = n + 1 ∧ mk n = false)) {b : Nat} (hb : b < 16) : gk_kd kd ob mk (n + 1) b = gk_kd kd ob mk n b := by
  unfold gk_kd
  have e := gu_no ho h (i := 32 * b) (by omega)
  by_cases q : 32 ≤ kd b ∧ ob (32 * b) ≠ 0 ∧ ob (32 * b) - 1 < n ∧ mk (ob (32 * b) - 1) = false
  · rw [if_pos q, if_pos ⟨q.1, e.mpr q.2⟩]
  · rw [if_neg q, if_neg (fun z => q ⟨z.1, e.mp z.2⟩)]
theorem gk_y {ob ln kd : Nat → Nat} (ho : iv_o ob ln kd) {mk : Nat → Bool} {n : Nat} (hn : n < 512) (h1 : ob n = n + 1) (h2 : mk n = false) {b : Nat} (hb : b < 16) :
    gk_kd kd ob mk (n + 1) b = if 32 ≤ gk_kd kd ob mk n b ∧ n ≤ 32 * b ∧ 32 * b < n + ln n then 0 else gk_kd kd ob mk n b := by
  have e := gu_yes ho hn h1 h2 (i := 32 * b) (by omega)
  by_cases k : 32 ≤ kd b
  · by_cases q : ob (32 * b) ≠ 0 ∧ ob (32 * b) - 1 < n ∧ mk (ob (32 * b) - 1) = false
    · have e0 : gk_kd kd ob mk n b = 0 := if_pos ⟨k, q⟩
      have e1 : gk_kd kd ob mk (n + 1) b = 0 := if_pos ⟨k, e.mpr (Or.inr q)⟩
      rw [e0, e1, if_neg (by omega)]
    · have e0 : gk_kd kd ob mk n b = kd b := if_neg (fun z => q z.2)
      rw [e0]
      by_cases r : n ≤ 32 * b ∧ 32 * b < n + ln n
      · rw [if_pos ⟨k, r⟩]
        exact if_pos ⟨k, e.mpr (Or.inl r)⟩
      · rw [if_neg (fun z => r z.2)]
        exact if_neg (fun z => (e.mp z.2).elim r q)
  · have e0 : gk_kd kd ob mk n b = kd b := if_neg (fun z => k z.1)
    have e1 : gk_kd kd ob mk (n + 1) b = kd b := if_neg (fun z => k z.1)
    rw [e0, e1, if_neg (fun z => k z.1)]
theorem gk_e {ob ln kd : Nat → Nat} (ho : iv_o ob ln kd) (hl : iv_l ob kd) {mk : Nat → Bool} {b : Nat} (hb : b < 16) : (if gk_kd kd ob mk 512 b < 32 ∧ cl_b (co_br (co_ob ob mk) b) = true then 0 else gk_kd kd ob mk 512 b) = co_kd kd (co_ob ob mk) b := by
  have h5 : 32 * b < 512 := by omega
  have hd : 32 * b / 32 = b := by omega
  by_cases br : co_br (co_ob ob mk) b
  · have r : co_kd kd (co_ob ob mk) b = 0 := if_pos (cl_t.mpr br)
    rw [r]
    by_cases k : 32 ≤ kd b
    · have h0 : co_ob ob mk (32 * b) = 0 := by
        have := br 0 (by omega)
        rwa [Nat.add_zero] at this
      have hne := hl (32 * b) h5 (by rw [hd]; exact k)
      have hlt := iv_lt ho h5
      have hm : mk (ob (32 * b) - 1) = false := by
        unfold co_ob at h0
        split at h0
        · exact absurd h0 hne
        · rename_i q
          exact cl_ft q
      have e0 : gk_kd kd ob mk 512 b = 0 := if_pos ⟨k, hne, by omega, hm⟩
      rw [e0]
      split <;> rfl
    · have e0 : gk_kd kd ob mk 512 b = kd b := if_neg (fun z => k z.1)
      rw [e0, if_pos ⟨by omega, cl_t.mpr br⟩]
  · have r : co_kd kd (co_ob ob mk) b = kd b := if_neg (fun q => br (cl_t.mp q))
    rw [r, if_neg (fun z => br (cl_t.mp z.2))]
    refine if_neg (fun z => ?_)
    obtain ⟨k, z1, z2, z3⟩ := z
    refine br (fun j hj => ?_)
    obtain ⟨p, hp⟩ : ∃ p, ob (32 * b) = p + 1 := ⟨ob (32 * b) - 1, by omega⟩
    have e := (iv_big ho h5 (by rw [hd]; exact k) hp (j := 32 * b + j) (by omega)).1
    have e2 : ob (32 * b) - 1 = p := by omega
    rw [e2] at z3
    unfold co_ob
    rw [e, show p + 1 - 1 = p by omega, z3]
    rfl
