/-! pairs of nodes -/
theorem qm_st_t {p : Nat → Prop} {A : Prop} {B : Bool} {k : Nat} (h : B = true ↔ (A ∧ ∀ a, a < k → p a)) (hb : B = true) (hk : p k) : (true : Bool) = true ↔ (A ∧ ∀ a, a < k + 1 → p a) := by
  refine ⟨fun _ => ⟨(h.mp hb).1, fun a ha => ?_⟩, fun _ => rfl⟩
  by_cases q : a = k
  · rw [q]; exact hk
  · exact (h.mp hb).2 a (by omega)
theorem qm_st_f {p : Nat → Prop} {A : Prop} {B : Bool} {k : Nat} (h : B = true ↔ (A ∧ ∀ a, a < k → p a)) (hb : B = false ∨ ¬ p k) : (false : Bool) = true ↔ (A ∧ ∀ a, a < k + 1 → p a) := by
  refine ⟨fun z => Bool.noConfusion z, fun z => ?_⟩
  rcases hb with hb | hb
  · have := h.mpr ⟨z.1, fun a ha => z.2 a (by omega)⟩
    rw [hb] at this
    exact this
  · exact absurd (z.2 k (by omega)) hb
theorem qm_st_n' {p : Nat → Prop} {A : Prop} {B : Bool} {k : Nat} (h : B = true ↔ (A ∧ ∀ a, a < k → p a)) (hk : p k) : B = true ↔ (A ∧ ∀ a, a < k + 1 → p a) := by
  refine ⟨fun hb => ⟨(h.mp hb).1, fun a ha => ?_⟩, fun z => h.mpr ⟨z.1, fun a ha => z.2 a (by omega)⟩⟩
  by_cases q : a = k
  · rw [q]; exact hk
  · exact (h.mp hb).2 a (by omega)
theorem qm_alk_s {y : qa_L} {v : qa_M} {i j : Nat} (h : qm_alk y v i j = true) : qm_alk y v j i = true := by
  obtain ⟨a1, a2, a3⟩ := qm_alk_iff.mp h
  exact qm_alk_iff.mpr ⟨a1.symm, fun k hk => (a2 k hk).symm, fun k hk => (a3 k hk).symm⟩
theorem qm_alv_iff {y : qa_L} {w : qa_M} : qm_alv y w = true ↔ ∀ a, a < qa_n y → ∀ b, b < a → w 2 a 9 = 0 → w 2 b 9 = 0 → qm_alk y w a b = true := by
  unfold qm_alv
  rw [decide_eq_true_eq]
  constructor
  · intro h a ha b hb h1 h2
    exact h a ha b (by omega) h1 h2
  · intro h i hi j hj h1 h2
    rcases Nat.lt_trichotomy i j with q | q | q
    · exact qm_alk_s (h j hj i q h2 h1)
    · subst q
      exact qm_alk_iff.mpr ⟨rfl, fun _ _ => rfl, fun _ _ => rfl⟩
    · exact h i hi j q h1 h2
