/-! the state and its invariant -/
def ad_b (w : Int32) : Bool := decide (4096 ≤ w.toInt ∧ w.toInt < 4608)
def ad_x (w : Int32) : Nat := (w.toInt - 4096).toNat
theorem ad_l {w : Int32} (h : ad_b w = true) : ad_x w < 512 ∧ w = nI (4096 + ad_x w) := by
  have h1 : 4096 ≤ w.toInt ∧ w.toInt < 4608 := of_decide_eq_true h
  have h2 : ad_x w < 512 := by unfold ad_x; omega
  refine ⟨h2, Int32.toInt_inj.mp ?_⟩
  rw [nI_toInt (by omega)]
  unfold ad_x
  omega
theorem ad_i {i : Nat} (h : i < 512) : ad_b (nI (4096 + i)) = true ∧ ad_x (nI (4096 + i)) = i := by
  have e : (nI (4096 + i)).toInt = ((4096 + i : Nat) : Int) := nI_toInt (by omega)
  constructor
  · unfold ad_b
    rw [e]
    exact decide_eq_true (by omega)
  · unfold ad_x
    rw [e]
    omega
def oa_n (ob : Nat → Nat) (w : Int32) : Nat := if ad_b w = true then ob (ad_x w) else 0
/-- roots, words, of each word its object's start + 1 or 0, at a start its length, a block's kind, at a start whether it is silent, doubtful, how many objects, how many collections -/
abbrev zz_T : Type := (Nat → Int32) × (Nat → Int32) × (Nat → Nat) × (Nat → Nat) × (Nat → Nat) × (Nat → Bool) × (Nat → Bool) × Nat × Nat
def iv_o (ob ln kd : Nat → Nat) : Prop := ∀ i, i < 512 → ∀ p, ob i = p + 1 → p ≤ i ∧ i < p + ln p ∧ p + ln p ≤ 512 ∧ p % 2 = 0 ∧ (∀ j, p ≤ j → j < p + ln p → ob j = p + 1) ∧
  ((kd (p / 32) = ln p ∧ (ln p = 2 ∨ ln p = 4 ∨ ln p = 8 ∨ ln p = 16) ∧ p % ln p = 0) ∨ (kd (p / 32) = 32 ∧ p % 32 = 0 ∧ ln p % 32 = 0 ∧ ∀ b, p / 32 < b → b < (p + ln p) / 32 → kd b = 33))
def iv_k (kd : Nat → Nat) : Prop := ∀ b, b < 16 → kd b = 0 ∨ kd b = 2 ∨ kd b = 4 ∨ kd b = 8 ∨ kd b = 16 ∨ kd b = 32 ∨ kd b = 33
def iv_f (ob kd : Nat → Nat) : Prop := ∀ i, i < 512 → kd (i / 32) = 0 → ob i = 0
def iv_l (ob kd : Nat → Nat) : Prop := ∀ i, i < 512 → 32 ≤ kd (i / 32) → ob i ≠ 0
def iv_w (ob : Nat → Nat) (wd : Nat → Int32) : Prop := ∀ i, i < 512 → ob i = 0 → wd i = 0
noncomputable def iv_c (ob : Nat → Nat) : Nat := cn_t (fun i => cl_b (ob i = i + 1)) 512
def iv_a (ob ln kd : Nat → Nat) (wd : Nat → Int32) (oc : Nat) : Prop := iv_o ob ln kd ∧ iv_k kd ∧ iv_f ob kd ∧ iv_l ob kd ∧ iv_w ob wd ∧ oc = iv_c ob
/-- every value of the tables is small -/
theorem iv_lt {ob ln kd : Nat → Nat} (ho : iv_o ob ln kd) {i : Nat} (hi : i < 512) : ob i < 513 := by
  cases h : ob i with
  | zero => omega
  | succ p =>
    have := ho i hi p h
    omega
theorem iv_kl {kd : Nat → Nat} (h : iv_k kd) {b : Nat} (hb : b < 16) : kd b < 34 := by
  rcases h b hb with e | e | e | e | e | e | e <;> omega
theorem iv_st {ob ln kd : Nat → Nat} (ho : iv_o ob ln kd) {i p : Nat} (hi : i < 512) (h : ob i = p + 1) : p < 512 ∧ ob p = p + 1 ∧ p + ln p ≤ 512 ∧ p % 2 = 0 ∧ 2 ≤ ln p := by
  obtain ⟨a1, a2, a3, a4, a5, a6⟩ := ho i hi p h
  refine ⟨by omega, a5 p (Nat.le_refl _) (by omega), a3, a4, ?_⟩
  rcases a6 with ⟨-, b2, -⟩ | ⟨-, -, b3, -⟩
  · rcases b2 with e | e | e | e <;> omega
  · omega
/-- the kind of a word's block, of a word in an object -/
theorem iv_kp {ob ln kd : Nat → Nat} (ho : iv_o ob ln kd) {i p : Nat} (hi : i < 512) (h : ob i = p + 1) : (kd (i / 32) = ln p ∧ i / 32 = p / 32 ∧ (ln p = 2 ∨ ln p = 4 ∨ ln p = 8 ∨ ln p = 16) ∧ p % ln p = 0) ∨ (32 ≤ kd (i / 32) ∧ p % 32 = 0 ∧ ln p % 32 = 0) := by
  obtain ⟨a1, a2, a3, a4, a5, a6⟩ := ho i hi p h
  rcases a6 with ⟨b1, b2, b3⟩ | ⟨b1, b2, b3, b4⟩
  · have e : i / 32 = p / 32 := by
      rcases b2 with e | e | e | e <;> rw [e] at a2 b3 <;> omega
    exact Or.inl ⟨by rw [e]; exact b1, e, b2, b3⟩
  · refine Or.inr ⟨?_, b2, b3⟩
    by_cases e : i / 32 = p / 32
    · rw [e, b1]
      exact Nat.le_refl _
    · rw [b4 (i / 32) (by omega) (by omega)]
      omega
/-- a slot is empty as a whole -/
theorem iv_slot {ob ln kd : Nat → Nat} (ho : iv_o ob ln kd) {i j s : Nat} (hi : i < 512) (hs : s = 2 ∨ s = 4 ∨ s = 8 ∨ s = 16) (hk : kd (i / 32) = s) (h0 : ob i = 0) (hj : j / s = i / s) : ob j = 0 := by
  cases hp : ob j with
  | zero => rfl
  | succ p =>
    exfalso
    have hj5 : j < 512 := by rcases hs with e | e | e | e <;> subst e <;> omega
    have hb : j / 32 = i / 32 := by rcases hs with e | e | e | e <;> subst e <;> omega
    obtain ⟨a1, a2, a3, a4, a5, a6⟩ := ho j hj5 p hp
    rcases iv_kp ho hj5 hp with ⟨b1, b2, b3, b4⟩ | ⟨b1, b2, b3⟩
    · rw [hb, hk] at b1
      rw [← b1] at a2 b4 a5
      have h1 : p ≤ i ∧ i < p + s := by
        rcases hs with e | e | e | e <;> subst e <;> omega
      have h2 := a5 i h1.1 h1.2
      omega
    · rw [hb, hk] at b1
      omega
/-- a block of a large object is that object's as a whole -/
theorem iv_big {ob ln kd : Nat → Nat} (ho : iv_o ob ln kd) {i j p : Nat} (hi : i < 512) (hk : 32 ≤ kd (i / 32)) (h : ob i = p + 1) (hj : j / 32 = i / 32) : ob j = p + 1 ∧ p ≤ 32 * (i / 32) ∧ 32 * (i / 32) < p + ln p := by
  obtain ⟨a1, a2, a3, a4, a5, a6⟩ := ho i hi p h
  rcases iv_kp ho hi h with ⟨b1, b2, b3, b4⟩ | ⟨b1, b2, b3⟩
  · rcases b3 with e | e | e | e <;> omega
  · exact ⟨a5 j (by omega) (by omega), by omega, by omega⟩
/-! finding room -/
def sz_f (n : Nat) : Nat := if n ≤ 2 then 2 else if n ≤ 4 then 4 else if n ≤ 8 then 8 else 16
def bk_f (n : Nat) : Nat := (n + 31) / 32
theorem sz_is (n : Nat) : sz_f n = 2 ∨ sz_f n = 4 ∨ sz_f n = 8 ∨ sz_f n = 16 := by
  unfold sz_f
  split
  · simp
  · split
    · simp
    · split <;> simp
def us_b (kd : Nat → Nat) (df : Nat → Bool) (f : Bool) (b : Nat) : Bool := decide (kd b = 0) && (f || !df b)
noncomputable def rn_b (kd : Nat → Nat) (df : Nat → Bool) (f : Bool) (c b : Nat) : Bool := cl_b (b + c ≤ 16 ∧ ∀ j, j < c → us_b kd df f (b + j) = true)
/-- the first block of a row of c blocks; 16: there is none -/
noncomputable def rm_b (kd : Nat → Nat) (df : Nat → Bool) (f : Bool) (c : Nat) : Nat := le_a (rn_b kd df f c) 16
/-- the first empty slot; 512: there is none -/
noncomputable def rm_s (ob kd : Nat → Nat) (s : Nat) : Nat := le_a (fun i => cl_b (kd (i / 32) = s ∧ ob i = 0)) 512
/-- the room for n words; 512: there is none -/
noncomputable def rm_n (ob kd : Nat → Nat) (df : Nat → Bool) (n : Nat) (f : Bool) : Nat :=
  if n ≤ 16 then (if rm_s ob kd (sz_f n) < 512 then rm_s ob kd (sz_f n) else 32 * rm_b kd df f 1) else 32 * rm_b kd df f (bk_f n)
theorem us_t {kd : Nat → Nat} {df : Nat → Bool} {f : Bool} {b : Nat} : us_b kd df f b = true ↔ kd b = 0 ∧ (f = true ∨ df b = false) := by
  unfold us_b
  cases f <;> cases df b <;> simp
theorem rm_bl (kd : Nat → Nat) (df : Nat → Bool) (f : Bool) (c : Nat) : rm_b kd df f c ≤ 16 := le_le (rn_b kd df f c) 16
theorem rm_bi {kd : Nat → Nat} {df : Nat → Bool} {f : Bool} {c : Nat} (h : rm_b kd df f c < 16) : rm_b kd df f c + c ≤ 16 ∧ ∀ j, j < c → kd (rm_b kd df f c + j) = 0 := by
  have h1 := cl_t.mp (le_is (P := rn_b kd df f c) 16 h)
  exact ⟨h1.1, fun j hj => (us_t.mp (h1.2 j hj)).1⟩
theorem rm_sl (ob kd : Nat → Nat) (s : Nat) : rm_s ob kd s ≤ 512 := le_le (fun i => cl_b (kd (i / 32) = s ∧ ob i = 0)) 512
theorem rm_si {ob kd : Nat → Nat} {s : Nat} (h : rm_s ob kd s < 512) : kd (rm_s ob kd s / 32) = s ∧ ob (rm_s ob kd s) = 0 := by
  have h1 := le_is (P := fun i => cl_b (kd (i / 32) = s ∧ ob i = 0)) 512 h
  exact cl_t.mp h1
theorem rm_sm {ob kd : Nat → Nat} {s j : Nat} (h : j < rm_s ob kd s) : ¬ (kd (j / 32) = s ∧ ob j = 0) := by
  have h1 := le_mn (P := fun i => cl_b (kd (i / 32) = s ∧ ob i = 0)) 512 h
  exact cl_f.mp h1
/-- it begins a slot -/
theorem rm_sa {ob ln kd : Nat → Nat} (ho : iv_o ob ln kd) {s : Nat} (hs : s = 2 ∨ s = 4 ∨ s = 8 ∨ s = 16) (h : rm_s ob kd s < 512) : rm_s ob kd s % s = 0 := by
  obtain ⟨h1, h2⟩ := rm_si h
  generalize hr : rm_s ob kd s = r at h h1 h2 ⊢
  by_cases hz : r % s = 0
  · exact hz
  · exfalso
    have hlt : r - r % s < r := by
      have : r % s ≤ r := Nat.mod_le _ _
      omega
    have hd : (r - r % s) / s = r / s := by
      rcases hs with e | e | e | e <;> subst e <;> omega
    have hb : (r - r % s) / 32 = r / 32 := by
      rcases hs with e | e | e | e <;> subst e <;> omega
    have h3 := iv_slot ho h hs h1 h2 hd
    exact rm_sm (ob := ob) (kd := kd) (s := s) (j := r - r % s) (by rw [hr]; exact hlt) ⟨by rw [hb]; exact h1, h3⟩
/-- what the reference looks for, slot by slot, is the same -/
theorem rm_sq {ob ln kd : Nat → Nat} (ho : iv_o ob ln kd) {s i : Nat} (hs : s = 2 ∨ s = 4 ∨ s = 8 ∨ s = 16) (hi : i < 512) (h1 : kd (i / 32) = s) (h2 : ob i = 0) (hm : ∀ j, j < i → j % 2 = 0 → ¬ (kd (j / 32) = s ∧ j % s = 0 ∧ ob j = 0)) : rm_s ob kd s = i := by
  refine le_eq (P := fun i => cl_b (kd (i / 32) = s ∧ ob i = 0)) hi (cl_t.mpr ⟨h1, h2⟩) (fun j hj => cl_f.mpr (fun hq => ?_))
  obtain ⟨q1, q2⟩ := hq
  have hle : j % s ≤ j := Nat.mod_le _ _
  have hd : (j - j % s) / s = j / s := by
    rcases hs with e | e | e | e <;> subst e <;> omega
  have hb : (j - j % s) / 32 = j / 32 := by
    rcases hs with e | e | e | e <;> subst e <;> omega
  have h3 := iv_slot ho (i := j) (by omega) hs q1 q2 hd
  refine hm (j - j % s) (by omega) ?_ ⟨by rw [hb]; exact q1, ?_, h3⟩
  · rcases hs with e | e | e | e <;> subst e <;> omega
  · rcases hs with e | e | e | e <;> subst e <;> omega
theorem rm_sn {ob ln kd : Nat → Nat} (ho : iv_o ob ln kd) {s : Nat} (hs : s = 2 ∨ s = 4 ∨ s = 8 ∨ s = 16) (hm : ∀ j, j < 512 → j % 2 = 0 → ¬ (kd (j / 32) = s ∧ j % s = 0 ∧ ob j = 0)) : ¬ rm_s ob kd s < 512 := by
  intro h
  obtain ⟨h1, h2⟩ := rm_si h
  have h3 := rm_sa ho hs h
  refine hm _ h ?_ ⟨h1, h3, h2⟩
  rcases hs with e | e | e | e <;> subst e <;> omega
