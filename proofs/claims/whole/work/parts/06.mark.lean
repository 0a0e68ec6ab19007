/-! marking: what is looked at, what it marks, what becomes doubtful -/
/-- the words that are looked at when X is marked -/
def mk_s (rt wd : Nat → Int32) (ln : Nat → Nat) (qt : Nat → Bool) (X : Nat → Prop) (w : Int32) : Prop := (∃ r, r < 8 ∧ w = rt r) ∨ ∃ q j, X q ∧ qt q = false ∧ j < ln q ∧ w = wd (q + j)
def mk_d (ob kd : Nat → Nat) (w : Int32) (b : Nat) : Prop := ad_b w = true ∧ ob (ad_x w) = 0 ∧ kd (ad_x w / 32) = 0 ∧ ad_x w / 32 = b
def mk_c (rt wd : Nat → Int32) (ob ln : Nat → Nat) (qt : Nat → Bool) (X : Nat → Prop) : Prop := ∀ w p, mk_s rt wd ln qt X w → oa_n ob w = p + 1 → X p
/-- the fewest that agree -/
def mk_r (rt wd : Nat → Int32) (ob ln : Nat → Nat) (qt : Nat → Bool) (p : Nat) : Prop := ∀ X : Nat → Prop, mk_c rt wd ob ln qt X → X p
theorem mk_sm {rt wd : Nat → Int32} {ln : Nat → Nat} {qt : Nat → Bool} {X Y : Nat → Prop} (h : ∀ q, X q → Y q) {w : Int32} (hs : mk_s rt wd ln qt X w) : mk_s rt wd ln qt Y w := by
  rcases hs with h1 | ⟨q, j, h1, h2⟩
  · exact Or.inl h1
  · exact Or.inr ⟨q, j, h q h1, h2⟩
theorem mk_rc (rt wd : Nat → Int32) (ob ln : Nat → Nat) (qt : Nat → Bool) : mk_c rt wd ob ln qt (mk_r rt wd ob ln qt) := fun w p hs hp X hX => hX w p (mk_sm (fun q hq => hq X hX) hs) hp
/-- marked and doubtful are what the words P that were looked at say -/
def mk_i (ob kd : Nat → Nat) (mk df : Nat → Bool) (P : Int32 → Prop) : Prop := (∀ p, mk p = true ↔ ∃ w, P w ∧ oa_n ob w = p + 1) ∧ ∀ b, df b = true ↔ ∃ w, P w ∧ mk_d ob kd w b
theorem mk_i0 (ob kd : Nat → Nat) : mk_i ob kd (fun _ => false) (fun _ => false) (fun _ => False) := by
  refine ⟨fun p => ⟨fun h => (by cases h), fun ⟨w, h, _⟩ => h.elim⟩, fun p => ⟨fun h => (by cases h), fun ⟨w, h, _⟩ => h.elim⟩⟩
theorem mk_ix {ob kd : Nat → Nat} {mk mk' df df' : Nat → Bool} {P P' : Int32 → Prop} (h : mk_i ob kd mk df P) (h1 : ∀ p, mk' p = mk p) (h2 : ∀ b, df' b = df b) (h3 : ∀ w, P' w ↔ P w) : mk_i ob kd mk' df' P' := by
  refine ⟨fun p => ?_, fun b => ?_⟩
  · rw [h1, h.1 p]
    exact ⟨fun ⟨w, a, b⟩ => ⟨w, (h3 w).mpr a, b⟩, fun ⟨w, a, b⟩ => ⟨w, (h3 w).mp a, b⟩⟩
  · rw [h2, h.2 b]
    exact ⟨fun ⟨w, a, b⟩ => ⟨w, (h3 w).mpr a, b⟩, fun ⟨w, a, b⟩ => ⟨w, (h3 w).mp a, b⟩⟩
/-- a word that is no address, or of no object and in no free block -/
theorem mk_no {ob kd : Nat → Nat} {mk df : Nat → Bool} {P : Int32 → Prop} {w : Int32} (h : mk_i ob kd mk df P) (h0 : oa_n ob w = 0) (hd : ∀ b, ¬ mk_d ob kd w b) : mk_i ob kd mk df (fun v => P v ∨ v = w) := by
  refine ⟨fun p => ?_, fun b => ?_⟩
  · rw [h.1 p]
    refine ⟨fun ⟨v, a, e⟩ => ⟨v, Or.inl a, e⟩, fun ⟨v, a, e⟩ => ?_⟩
    rcases a with a | a
    · exact ⟨v, a, e⟩
    · subst a
      omega
  · rw [h.2 b]
    refine ⟨fun ⟨v, a, e⟩ => ⟨v, Or.inl a, e⟩, fun ⟨v, a, e⟩ => ?_⟩
    rcases a with a | a
    · exact ⟨v, a, e⟩
    · subst a
      exact absurd e (hd b)
theorem mk_na {ob kd : Nat → Nat} {mk df : Nat → Bool} {P : Int32 → Prop} {w : Int32} (h : mk_i ob kd mk df P) (ha : ad_b w = false) : mk_i ob kd mk df (fun v => P v ∨ v = w) := by
  refine mk_no h ?_ (fun b hb => ?_)
  · unfold oa_n
    rw [ha]
    rfl
  · have := hb.1
    rw [ha] at this
    cases this
theorem mk_hit {ob kd : Nat → Nat} {mk df : Nat → Bool} {P : Int32 → Prop} {w : Int32} {p : Nat} (h : mk_i ob kd mk df P) (hp : oa_n ob w = p + 1) : mk_i ob kd (va_up mk p true) df (fun v => P v ∨ v = w) := by
  refine ⟨fun q => ?_, fun b => ?_⟩
  · by_cases e : q = p
    · subst e
      rw [va_up_self]
      exact ⟨fun _ => ⟨w, Or.inr rfl, hp⟩, fun _ => rfl⟩
    · rw [va_up_ne mk true e, h.1 q]
      refine ⟨fun ⟨v, a, e⟩ => ⟨v, Or.inl a, e⟩, fun ⟨v, a, e2⟩ => ?_⟩
      rcases a with a | a
      · exact ⟨v, a, e2⟩
      · subst a
        omega
  · rw [h.2 b]
    refine ⟨fun ⟨v, a, e⟩ => ⟨v, Or.inl a, e⟩, fun ⟨v, a, e⟩ => ?_⟩
    rcases a with a | a
    · exact ⟨v, a, e⟩
    · subst a
      obtain ⟨e1, e2, -⟩ := e
      unfold oa_n at hp
      rw [if_pos e1] at hp
      omega
theorem mk_had {ob kd : Nat → Nat} {mk df : Nat → Bool} {P : Int32 → Prop} {w : Int32} {p : Nat} (h : mk_i ob kd mk df P) (hp : oa_n ob w = p + 1) (hm : mk p = true) : mk_i ob kd mk df (fun v => P v ∨ v = w) := by
  refine mk_ix (mk_hit h hp) (fun q => ?_) (fun _ => rfl) (fun _ => Iff.rfl)
  by_cases e : q = p
  · subst e
    rw [va_up_self]
    exact hm
  · rw [va_up_ne mk true e]
theorem mk_dbt {ob kd : Nat → Nat} {mk df : Nat → Bool} {P : Int32 → Prop} {w : Int32} (h : mk_i ob kd mk df P) (h1 : ad_b w = true) (h2 : ob (ad_x w) = 0) (h3 : kd (ad_x w / 32) = 0) : mk_i ob kd mk (va_up df (ad_x w / 32) true) (fun v => P v ∨ v = w) := by
  refine ⟨fun p => ?_, fun b => ?_⟩
  · rw [h.1 p]
    refine ⟨fun ⟨v, a, e⟩ => ⟨v, Or.inl a, e⟩, fun ⟨v, a, e⟩ => ?_⟩
    rcases a with a | a
    · exact ⟨v, a, e⟩
    · subst a
      unfold oa_n at e
      rw [if_pos h1] at e
      omega
  · by_cases e : b = ad_x w / 32
    · subst e
      rw [va_up_self]
      exact ⟨fun _ => ⟨w, Or.inr rfl, h1, h2, h3, rfl⟩, fun _ => rfl⟩
    · rw [va_up_ne df true e, h.2 b]
      refine ⟨fun ⟨v, a, e⟩ => ⟨v, Or.inl a, e⟩, fun ⟨v, a, e2⟩ => ?_⟩
      rcases a with a | a
      · exact ⟨v, a, e2⟩
      · subst a
        exact absurd e2.2.2.2.symm e
/-- the end of a marking: what is marked is just what must be -/
theorem mk_end {rt wd : Nat → Int32} {ob ln kd : Nat → Nat} {qt mk df : Nat → Bool} {P : Int32 → Prop} (h : mk_i ob kd mk df P) (hs : ∀ w, P w → mk_s rt wd ln qt (mk_r rt wd ob ln qt) w) (hc : ∀ w, mk_s rt wd ln qt (fun p => mk p = true) w → P w) :
    (∀ p, mk p = true ↔ mk_r rt wd ob ln qt p) ∧ ∀ b, df b = true ↔ ∃ w, mk_s rt wd ln qt (mk_r rt wd ob ln qt) w ∧ mk_d ob kd w b := by
  have h1 : ∀ p, mk p = true ↔ mk_r rt wd ob ln qt p := fun p => by
    refine ⟨fun hp => ?_, fun hp => hp (fun q => mk q = true) (fun w q hw hq => (h.1 q).mpr ⟨w, hc w hw, hq⟩)⟩
    obtain ⟨w, hw, e⟩ := (h.1 p).mp hp
    exact mk_rc rt wd ob ln qt w p (hs w hw) e
  refine ⟨h1, fun b => ?_⟩
  rw [h.2 b]
  exact ⟨fun ⟨w, a, e⟩ => ⟨w, hs w a, e⟩, fun ⟨w, a, e⟩ => ⟨w, hc w (mk_sm (fun q hq => (h1 q).mpr hq) a), e⟩⟩
/-! what a collection leaves -/
noncomputable def co_mk (rt wd : Nat → Int32) (ob ln : Nat → Nat) (qt : Nat → Bool) : Nat → Bool := fun p => cl_b (mk_r rt wd ob ln qt p)
def co_ob (ob : Nat → Nat) (mk : Nat → Bool) : Nat → Nat := fun i => if mk (ob i - 1) = true then ob i else 0
def co_wd (wd : Nat → Int32) (ob : Nat → Nat) (mk : Nat → Bool) : Nat → Int32 := fun i => if ob i ≠ 0 ∧ mk (ob i - 1) = false then 0 else wd i
def co_br (ob : Nat → Nat) (b : Nat) : Prop := ∀ j, j < 32 → ob (32 * b + j) = 0
noncomputable def co_kd (kd ob : Nat → Nat) : Nat → Nat := fun b => if cl_b (co_br ob b) = true then 0 else kd b
noncomputable def co_df (rt wd : Nat → Int32) (ob ln kd : Nat → Nat) (qt : Nat → Bool) : Nat → Bool := fun b => cl_b (∃ w, mk_s rt wd ln qt (mk_r rt wd ob ln qt) w ∧ mk_d ob kd w b)
theorem co_ob_p {ob : Nat → Nat} {mk : Nat → Bool} {i p : Nat} : co_ob ob mk i = p + 1 ↔ ob i = p + 1 ∧ mk p = true := by
  unfold co_ob
  constructor
  · intro h
    split at h
    · rename_i h1
      rw [h] at h1
      exact ⟨h, h1⟩
    · omega
  · intro h
    rw [h.1, show p + 1 - 1 = p by omega, if_pos h.2]
theorem co_ob_0 {ob : Nat → Nat} {mk : Nat → Bool} {i : Nat} (h : ob i = 0) : co_ob ob mk i = 0 := by
  unfold co_ob
  rw [h]
  split <;> rfl
theorem co_nb {ob : Nat → Nat} {i : Nat} (h : co_br ob (i / 32)) : ob i = 0 := by
  have e := h (i % 32) (by omega)
  rwa [show 32 * (i / 32) + i % 32 = i by omega] at e
theorem co_kd_n {kd ob : Nat → Nat} {i : Nat} (h : ob i ≠ 0) : co_kd kd ob (i / 32) = kd (i / 32) := by
  unfold co_kd
  rw [if_neg]
  intro q
  exact h (co_nb (cl_t.mp q))
theorem co_iv {ob ln kd : Nat → Nat} {wd : Nat → Int32} {oc : Nat} (mk : Nat → Bool) (hv : iv_a ob ln kd wd oc) : iv_a (co_ob ob mk) ln (co_kd kd (co_ob ob mk)) (co_wd wd ob mk) (iv_c (co_ob ob mk)) := by
  obtain ⟨ho, hk, hf, hl, hw, hc⟩ := hv
  refine ⟨?_, ?_, ?_, ?_, ?_, rfl⟩
  · intro i hi p hp
    obtain ⟨hp1, hp2⟩ := co_ob_p.mp hp
    obtain ⟨a1, a2, a3, a4, a5, a6⟩ := ho i hi p hp1
    have n5 : ∀ j, p ≤ j → j < p + ln p → co_ob ob mk j = p + 1 := fun j j1 j2 => co_ob_p.mpr ⟨a5 j j1 j2, hp2⟩
    have kp : co_kd kd (co_ob ob mk) (p / 32) = kd (p / 32) := co_kd_n (by rw [n5 p (Nat.le_refl _) (by omega)]; omega)
    refine ⟨a1, a2, a3, a4, n5, ?_⟩
    rw [kp]
    rcases a6 with ⟨b1, b2, b3⟩ | ⟨b1, b2, b3, b4⟩
    · exact Or.inl ⟨b1, b2, b3⟩
    · refine Or.inr ⟨b1, b2, b3, fun b c1 c2 => ?_⟩
      have e : b = (32 * b) / 32 := by omega
      have := co_kd_n (kd := kd) (ob := co_ob ob mk) (i := 32 * b) (by rw [n5 (32 * b) (by omega) (by omega)]; omega)
      rw [← e] at this
      rw [this]
      exact b4 b c1 c2
  · intro b hb
    unfold co_kd
    split
    · exact Or.inl rfl
    · exact hk b hb
  · intro i hi h0
    by_cases hne : co_ob ob mk i = 0
    · exact hne
    · rw [co_kd_n hne] at h0
      exact co_ob_0 (hf i hi h0)
  · intro i hi h32 h0
    have hnb : ¬ co_br (co_ob ob mk) (i / 32) := by
      intro q
      unfold co_kd at h32
      rw [if_pos (cl_t.mpr q)] at h32
      omega
    have hkd : 32 ≤ kd (i / 32) := by
      unfold co_kd at h32
      rwa [if_neg (fun q => hnb (cl_t.mp q))] at h32
    refine hnb (fun j hj => ?_)
    cases hp : co_ob ob mk (32 * (i / 32) + j) with
    | zero => rfl
    | succ p =>
      obtain ⟨p1, p2⟩ := co_ob_p.mp hp
      have hlt : 32 * (i / 32) + j < 512 := by omega
      have hb : i / 32 = (32 * (i / 32) + j) / 32 := by omega
      have := (iv_big ho hlt (by rw [← hb]; exact hkd) p1 (j := i) hb).1
      rw [co_ob_p.mpr ⟨this, p2⟩] at h0
      omega
  · intro i hi h0
    unfold co_wd
    by_cases h1 : ob i ≠ 0 ∧ mk (ob i - 1) = false
    · rw [if_pos h1]
    · rw [if_neg h1]
      refine hw i hi ?_
      unfold co_ob at h0
      split at h0
      · exact h0
      · rename_i h2
        by_cases h3 : ob i = 0
        · exact h3
        · exact absurd ⟨h3, cl_ft h2⟩ h1
