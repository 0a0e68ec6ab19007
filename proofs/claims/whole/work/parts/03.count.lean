/-! numbers of booleans and of starts; counting, the least of a kind -/
def zb_e (b : Bool) : Int32 := if b = true then 1 else 0
def zs_e (n : Nat) : Int32 := nI n - 1
theorem zb_t : zb_e true = 1 := rfl
theorem zb_f : zb_e false = 0 := rfl
theorem zb_z {b : Bool} (h : zb_e b = 0) : b = false := by
  cases b
  · rfl
  · exact absurd h (by decide)
theorem zb_nz {b : Bool} (h : ¬ zb_e b = 0) : b = true := by
  cases b
  · exact absurd rfl h
  · rfl
theorem zs_0 : zs_e 0 = -1 := by decide +kernel
theorem zs_s (n : Nat) : zs_e (n + 1) = nI n := nI_pred n
theorem zn_m1 {n : Nat} (h : n < 2 ^ 31) : ¬ nI n = -1 := by
  intro q
  have a := nI_toInt h
  rw [q] at a
  have e : (-1 : Int32).toInt = -1 := by decide
  omega
theorem zs_m1 {n : Nat} (h : n < 2 ^ 31) : zs_e n = -1 ↔ n = 0 := by
  cases n with
  | zero => exact ⟨fun _ => rfl, fun _ => zs_0⟩
  | succ k =>
    rw [zs_s]
    exact ⟨fun q => absurd q (zn_m1 (by omega)), fun q => by omega⟩
theorem zs_eq {n k : Nat} (hn : n < 2 ^ 31) (hk : k < 2 ^ 31) : zs_e n = nI k ↔ n = k + 1 := by
  cases n with
  | zero =>
    rw [zs_0]
    exact ⟨fun q => absurd q.symm (zn_m1 hk), fun q => by omega⟩
  | succ j =>
    rw [zs_s, nI_eq (by omega) hk]
    omega
theorem zs_lt {n : Nat} (h : n < 2 ^ 31) : zs_e n < 0 ↔ n = 0 := by
  cases n with
  | zero => exact ⟨fun _ => rfl, fun _ => by rw [zs_0]; decide⟩
  | succ k =>
    rw [zs_s]
    exact ⟨fun q => absurd q (nI_pos (by omega)), fun q => by omega⟩
noncomputable def cl_b (P : Prop) : Bool := @decide P (Classical.propDecidable P)
theorem cl_t {P : Prop} : cl_b P = true ↔ P := by
  unfold cl_b
  exact @decide_eq_true_iff P (Classical.propDecidable P)
theorem cl_f {P : Prop} : cl_b P = false ↔ ¬ P := by
  constructor
  · intro h q
    rw [cl_t.mpr q] at h
    cases h
  · intro h
    cases hb : cl_b P
    · rfl
    · exact absurd (cl_t.mp hb) h
theorem cl_e {P Q : Prop} (h : P ↔ Q) : cl_b P = cl_b Q := by rw [show P = Q from propext h]
theorem cl_ft {b : Bool} (h : ¬ b = true) : b = false := by cases b <;> simp_all
theorem cl_tf {b : Bool} (h : ¬ b = false) : b = true := by cases b <;> simp_all
/-- how many of the first n are P -/
def cn_t (P : Nat → Bool) : Nat → Nat
  | 0 => 0
  | n + 1 => cn_t P n + (if P n = true then 1 else 0)
theorem cn_le (P : Nat → Bool) (n : Nat) : cn_t P n ≤ n := by
  induction n with
  | zero => exact Nat.le_refl _
  | succ n ih =>
    simp only [cn_t]
    split <;> omega
theorem cn_ext {P Q : Nat → Bool} (n : Nat) (h : ∀ i, i < n → P i = Q i) : cn_t P n = cn_t Q n := by
  induction n with
  | zero => rfl
  | succ n ih =>
    simp only [cn_t]
    rw [ih (fun i hi => h i (by omega)), h n (by omega)]
theorem cn_lt {P : Nat → Bool} {k : Nat} (hP : P k = false) (n : Nat) : k < n → cn_t P n < n := by
  induction n with
  | zero => intro h; omega
  | succ n ih =>
    intro h
    simp only [cn_t]
    by_cases hk : k = n
    · subst hk
      have := cn_le P k
      rw [hP]
      simp
      omega
    · have := ih (by omega)
      split <;> omega
theorem cn_set {P Q : Nat → Bool} {k : Nat} (hP : P k = false) (hQ : Q k = true) (n : Nat) : k < n → (∀ i, i < n → i ≠ k → P i = Q i) → cn_t Q n = cn_t P n + 1 := by
  induction n with
  | zero => intro h; omega
  | succ n ih =>
    intro h hx
    simp only [cn_t]
    by_cases hk : k = n
    · subst hk
      rw [cn_ext k (fun i hi => (hx i (by omega) (by omega)).symm), hP, hQ]
      simp
    · rw [ih (by omega) (fun i hi => hx i (by omega)), hx n (by omega) (fun q => hk q.symm)]
      omega
theorem cn_z {P : Nat → Bool} (n : Nat) (h : ∀ i, i < n → P i = false) : cn_t P n = 0 := by
  induction n with
  | zero => rfl
  | succ n ih =>
    simp only [cn_t]
    rw [ih (fun i hi => h i (by omega)), h n (by omega)]
    simp
theorem cn_all {P : Nat → Bool} (n : Nat) (h : ∀ i, i < n → P i = true) : cn_t P n = n := by
  induction n with
  | zero => rfl
  | succ n ih =>
    simp only [cn_t]
    rw [ih (fun i hi => h i (by omega)), h n (by omega)]
    simp
theorem cn_run {Q : Nat → Bool} (a k : Nat) (v : Bool) : (∀ r, r < k → Q (a + r) = v) → cn_t Q (a + k) = cn_t Q a + (if v = true then k else 0) := by
  induction k with
  | zero => intro _; simp
  | succ k ih =>
    intro h
    have e : a + (k + 1) = (a + k) + 1 := by omega
    rw [e]
    simp only [cn_t]
    rw [ih (fun r hr => h r (by omega)), h k (by omega)]
    cases v <;> simp
    omega
theorem cn_mul {P Q : Nat → Bool} (k m : Nat) : (∀ t r, t < m → r < k → Q (t * k + r) = P t) → cn_t Q (m * k) = cn_t P m * k := by
  induction m with
  | zero => intro _; simp [cn_t]
  | succ m ih =>
    intro h
    rw [Nat.succ_mul, cn_run (m * k) k (P m) (fun r hr => h m r (by omega) hr), ih (fun t r ht hr => h t r (by omega) hr)]
    simp only [cn_t]
    cases P m <;> simp [Nat.add_mul]
theorem cn_mono {P Q : Nat → Bool} (n : Nat) (h : ∀ i, i < n → P i = true → Q i = true) : cn_t P n ≤ cn_t Q n := by
  induction n with
  | zero => exact Nat.le_refl _
  | succ n ih =>
    simp only [cn_t]
    have h1 := ih (fun i hi => h i (by omega))
    have h2 := h n (by omega)
    cases hp : P n
    · cases hq : Q n <;> simp <;> omega
    · rw [h2 hp]
      simp
      omega
/-- the least of the first n that is P; n where there is none -/
def le_a (P : Nat → Bool) : Nat → Nat
  | 0 => 0
  | n + 1 => if le_a P n < n then le_a P n else if P n = true then n else n + 1
theorem le_le (P : Nat → Bool) (n : Nat) : le_a P n ≤ n := by
  induction n with
  | zero => exact Nat.le_refl _
  | succ n ih =>
    simp only [le_a]
    split
    · omega
    · split <;> omega
theorem le_is {P : Nat → Bool} (n : Nat) : le_a P n < n → P (le_a P n) = true := by
  induction n with
  | zero => intro h; exact absurd h (Nat.lt_irrefl _)
  | succ n ih =>
    intro h
    simp only [le_a] at h ⊢
    by_cases h1 : le_a P n < n
    · rw [if_pos h1]
      exact ih h1
    · rw [if_neg h1] at h ⊢
      by_cases h2 : P n = true
      · rw [if_pos h2]
        exact h2
      · rw [if_neg h2] at h
        omega
theorem le_mn {P : Nat → Bool} {j : Nat} (n : Nat) : j < le_a P n → P j = false := by
  induction n with
  | zero => intro h; exact absurd h (Nat.not_lt_zero _)
  | succ n ih =>
    intro h
    simp only [le_a] at h
    have hl := le_le P n
    by_cases h1 : le_a P n < n
    · rw [if_pos h1] at h
      exact ih h
    · rw [if_neg h1] at h
      by_cases h2 : P n = true
      · rw [if_pos h2] at h
        exact ih (by omega)
      · rw [if_neg h2] at h
        by_cases hj : j < n
        · exact ih (by omega)
        · have e : j = n := by omega
          subst e
          exact cl_ft h2
theorem le_eq {P : Nat → Bool} {n k : Nat} (hk : k < n) (hP : P k = true) (hm : ∀ j, j < k → P j = false) : le_a P n = k := by
  have h1 : ¬ le_a P n < k := fun h => by
    have a := hm _ h
    rw [le_is (P := P) n (by omega)] at a
    cases a
  have h2 : ¬ k < le_a P n := fun h => by
    have a := le_mn n h
    rw [hP] at a
    cases a
  omega
theorem le_no {P : Nat → Bool} {n : Nat} (h : ∀ j, j < n → P j = false) : le_a P n = n := by
  have hl := le_le P n
  by_cases h1 : le_a P n < n
  · have a := h _ h1
    rw [le_is n h1] at a
    cases a
  · omega
theorem le_ge {P : Nat → Bool} {n : Nat} (h : ¬ le_a P n < n) : ∀ j, j < n → P j = false := fun j hj => le_mn n (by have := le_le P n; omega)
theorem le_ex {P Q : Nat → Bool} (n : Nat) (h : ∀ i, i < n → P i = Q i) : le_a P n = le_a Q n := by
  induction n with
  | zero => rfl
  | succ n ih =>
    simp only [le_a]
    rw [ih (fun i hi => h i (by omega)), h n (by omega)]
