/-! frames counted -/
theorem qm_it_f {y : qa_L} {w : qa_M} {F : Nat} (h : w 0 0 11 = nI F) (k : Nat) : qm_it y w k 0 0 11 = nI (F + k) := by
  induction k with
  | zero => exact h
  | succ k ih =>
    rw [qm_it]
    unfold qm_FR
    rw [qa_up_s, ih, nI_1]
    rfl
theorem qm_fok_it {y : qa_L} {w : qa_M} {F k : Nat} (h : w 0 0 11 = nI F) (h4 : F + 4 < 2 ^ 31) (hk : k ≤ 4) : qm_fok (qm_it y w k) := ⟨F + k, by omega, qm_it_f h k⟩
