/-! strikes, counted one by one -/
theorem qm_ad_128 : ∀ a, a < 128 → ∀ j, j < 7 → qm_ad (nI a) j = nI (a ||| 2 ^ j) ∧ (a ||| 2 ^ j) < 128 := by decide +kernel
theorem qm_bc_ad : ∀ a, a < 128 → ∀ j, j < 7 → qm_in (nI a) (nI j) = false → qm_bc (qm_ad (nI a) j) = qm_bc (nI a) + 1 := by decide +kernel
theorem qm_cv_ok {y : qa_L} {v : qa_M} {i : Nat} (k : Nat) (hk : k ≤ 7) : (∃ a, a < 128 ∧ qm_cv y v i k = nI a) ∧ ∀ j, k ≤ j → j < 31 → qm_in (qm_cv y v i k) (nI j) = false := by
  induction k with
  | zero => exact ⟨⟨0, by decide, rfl⟩, fun j _ h2 => qm_in_0 h2⟩
  | succ k ih =>
    obtain ⟨⟨a, ha, e⟩, h2⟩ := ih (by omega)
    rw [qm_cv]
    split
    · rw [e]
      obtain ⟨e2, h3⟩ := qm_ad_128 a ha k (by omega)
      refine ⟨⟨_, h3, e2⟩, fun j hj h31 => ?_⟩
      rw [qm_in_ad _ (by omega) h31, ← e, h2 j (by omega) h31, decide_eq_false (by omega)]
      rfl
    · exact ⟨⟨a, ha, e⟩, fun j hj h31 => h2 j (by omega) h31⟩
theorem qm_cv_bc {y : qa_L} {v : qa_M} {i k : Nat} (hk : k < 7) : qm_bc (qm_ad (qm_cv y v i k) k) = qm_bc (qm_cv y v i k) + 1 := by
  obtain ⟨⟨a, ha, e⟩, h2⟩ := qm_cv_ok (y := y) (v := v) (i := i) k (by omega)
  have h3 := h2 k (Nat.le_refl _) (by omega)
  rw [e] at h3 ⊢
  exact qm_bc_ad a ha k hk h3
theorem qm_acc_le (v : qa_M) (i j k : Nat) : qm_acc v i j k ≤ k := by
  induction k with
  | zero => exact Nat.le_refl _
  | succ k ih => rw [qm_acc]; split <;> omega
