/-! frames counted -/
theorem qm_it_f {y : qa_L} {w : qa_M} {F : Nat} (h : w 0 0 11 = nI F) (k : Nat) : qm_it y w k 0 0 11 = nI (F + k) := by
  induction k with
  | zero => exact h
  | succ k ih =>
    rw [qm_it]
    unfold qm_FR
    rw [qa_up_s, ih, nI_1]
    rfl
theorem qm_fok_it {y : qa_L} {w : qa_M} {F k : Nat} (h : w 0 0 11 = nI F) (h4 : F + 4 < 2 ^ 31) (hk : k ≤ 4) : qm_fok (qm_it y w k) := ⟨F + k, by omega, qm_it_f h k⟩
theorem qm_ltp {a b : Int32} (h1 : 1 ≤ a) (h2 : a ≤ 8) (h : b ≤ a - 1) : b < a := by
  obtain ⟨j, hj, rfl⟩ := nI_of (x := a) (fun q => qm_nle q (Int32.le_trans (by decide) h1))
  have h1 : nI 1 ≤ nI j := h1
  rw [nI_leI (by omega) hj] at h1
  obtain ⟨k, rfl⟩ : ∃ k, j = k + 1 := ⟨j - 1, by omega⟩
  rw [nI_pred] at h
  rw [Int32.le_iff_toInt_le, nI_toInt (by omega)] at h
  rw [Int32.lt_iff_toInt_lt, nI_toInt hj]
  omega
theorem qm_lep {a b : Int32} (h1 : 1 ≤ a) (h2 : a ≤ 8) (h : b < a) : b ≤ a - 1 := by
  obtain ⟨j, hj, rfl⟩ := nI_of (x := a) (fun q => qm_nle q (Int32.le_trans (by decide) h1))
  have h1 : nI 1 ≤ nI j := h1
  rw [nI_leI (by omega) hj] at h1
  obtain ⟨k, rfl⟩ : ∃ k, j = k + 1 := ⟨j - 1, by omega⟩
  rw [nI_pred]
  rw [Int32.le_iff_toInt_le, nI_toInt (by omega)]
  rw [Int32.lt_iff_toInt_lt, nI_toInt hj] at h
  omega
