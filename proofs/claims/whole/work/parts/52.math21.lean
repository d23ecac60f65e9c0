theorem qm_odd {k : Nat} (hk : k < 2 ^ 31) : (nI k - nI k / 2 * 2 = 0 ∧ ¬ nI k - nI k / 2 * 2 = 1) ∨ (nI k - nI k / 2 * 2 = 1 ∧ ¬ nI k - nI k / 2 * 2 = 0) := by
  have e : nI k - nI k / 2 * 2 = nI (k % 2) := pk_rem hk (by decide) (by decide)
  rw [e]
  rcases Nat.mod_two_eq_zero_or_one k with h | h <;> rw [h]
  · exact Or.inl ⟨rfl, by decide⟩
  · exact Or.inr ⟨rfl, by decide⟩
theorem qm_odd1 {k : Nat} (hk : k < 2 ^ 31) (h : nI k - nI k / 2 * 2 = 1) : ¬ nI k - nI k / 2 * 2 = 0 := by rw [h]; decide
theorem qm_odd0 {k : Nat} (hk : k < 2 ^ 31) (h : ¬ nI k - nI k / 2 * 2 = 1) : nI k - nI k / 2 * 2 = 0 := by
  rcases qm_odd hk with q | q
  · exact q.1
  · exact absurd q.1 h
theorem qm_min_c (a b : Int32) : (if a < b then a else b) = qm_min a b := by
  unfold qm_min
  by_cases h1 : a < b
  · have h2 : ¬ b < a := by
      rw [Int32.lt_iff_toInt_lt] at h1 ⊢
      omega
    rw [if_pos h1, if_neg h2]
  · by_cases h2 : b < a
    · rw [if_neg h1, if_pos h2]
    · rw [if_neg h1, if_neg h2]
      apply Int32.toInt_inj.mp
      rw [Int32.lt_iff_toInt_lt] at h1 h2
      omega
/-- what a frame needs of the number of frames -/
def qm_fok (w : qa_M) : Prop := ∃ F, F < 2 ^ 31 ∧ w 0 0 11 = nI F
theorem qm_bear_m {n m : Nat} {x : Int32} (h4 : 4 ≤ n) (h7 : n ≤ 7) (h : ∃ a, a < 2 ^ n ∧ x = nI a) : qm_bear m x = qm_min (nI m) ((nI (qm_pc n x) - 1) / 3) := by
  obtain ⟨a, ha, rfl⟩ := h
  unfold qm_bear
  rw [qm_bc_pc h4 h7 ha]
