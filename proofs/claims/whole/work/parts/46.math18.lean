theorem qm_nI_self (x : Int32) : x = nI x.toBitVec.toNat := by
  apply Int32.toBitVec_inj.1
  show x.toBitVec = BitVec.ofNat 32 x.toBitVec.toNat
  rw [BitVec.ofNat_toNat, BitVec.setWidth_eq]
theorem qm_and_lt {a n : Nat} (z : Int32) (hn : n ≤ 7) (ha : a < 2 ^ n) : ∃ b, b < 2 ^ n ∧ nI a &&& z = nI b := by
  have h7 := qm_p128 hn ha
  refine ⟨(nI a &&& z).toBitVec.toNat, ?_, qm_nI_self _⟩
  rw [Int32.toBitVec_and, BitVec.toNat_and, pk_tn (by omega)]
  exact Nat.lt_of_le_of_lt Nat.and_le_left ha
theorem qm_cv_i {y : qa_L} {v : qa_M} {i : Nat} (hi : i < 31) (k : Nat) (hk : k ≤ 7) : qm_in (qm_cv y v i k) (nI i) = false := by
  induction k with
  | zero => exact qm_in_0 hi
  | succ k ih =>
    rw [qm_cv]
    split
    · rename_i c
      rw [qm_in_ad _ (by omega) hi, ih (by omega), decide_eq_false (fun q => c.1 q.symm)]
      rfl
    · exact ih (by omega)
theorem qm_F3_11 {y : qa_L} {v : qa_M} {i f : Nat} (h12 : f ≠ 12) (h13 : f ≠ 13) : qm_F3 y v 2 i f = v 2 i f := by
  unfold qm_F3
  rw [qm_P3_k (by decide), qm_P2_k 4 (by decide) (by decide) (fun z => h13 z.2)]
  unfold qm_P1
  rw [if_neg (fun z => absurd z.1 (by decide)), if_neg (fun z => h13 z.2.2)]
  unfold qm_P0
  rw [if_neg (fun z => h12 z.2.2)]
theorem qm_FR_11 {y : qa_L} {v : qa_M} {i : Nat} (hi : i < qa_n y) : qm_FR y v 2 i 11 = v 2 i 11 &&& (qm_cv y (qm_F3 y v) i (qa_n y) ^^^ (-1)) := by
  unfold qm_FR
  rw [qa_up_k (by decide)]
  unfold qm_P5
  rw [if_neg (fun z => absurd z.2.2 (by decide)), if_neg (fun z => absurd z.2.2 (by decide))]
  unfold qm_P4
  rw [if_pos ⟨rfl, hi, rfl⟩, qm_F3_11 (by decide) (by decide)]
theorem qm_mok_FR {y : qa_L} {v : qa_M} (h7 : qa_n y ≤ 7) (h : qm_mok y v) : qm_mok y (qm_FR y v) := by
  intro i hi
  obtain ⟨⟨a, ha, e⟩, h2⟩ := h i hi
  rw [qm_FR_11 hi]
  refine ⟨?_, ?_⟩
  · rw [e]
    exact qm_and_lt _ h7 ha
  · rw [qm_in_and _ _ (by omega), qm_in_not _ (by omega), h2, qm_cv_i (by omega) _ h7]
    rfl
/-- k frames -/
def qm_it (y : qa_L) (v : qa_M) : Nat → qa_M
  | 0 => v
  | k + 1 => qm_FR y (qm_it y v k)
def qm_is (y : qa_L) (v : qa_M) : Nat → Int32
  | 0 => 0
  | k + 1 => qm_is y v k + qm_FS y (qm_it y v k)
theorem qm_mok_it {y : qa_L} {v : qa_M} (h7 : qa_n y ≤ 7) (h : qm_mok y v) (k : Nat) : qm_mok y (qm_it y v k) := by
  induction k with
  | zero => exact h
  | succ k ih => exact qm_mok_FR h7 ih
theorem qm_it_k {y : qa_L} {v : qa_M} (k : Nat) {a b f : Nat} (h0 : a ≠ 0) (h2 : a ≠ 2) (h5 : a ≠ 5) (h6 : a ≠ 6) (h7 : a ≠ 7) (h18 : a ≠ 18) : qm_it y v k a b f = v a b f := by
  induction k with
  | zero => rfl
  | succ k ih => rw [qm_it, qm_FR_k h0 h2 h5 h6 h7 h18, ih]
theorem qm_it_kk {y : qa_L} {v : qa_M} (k : Nat) {a : Nat} (h0 : a ≠ 0) (h2 : a ≠ 2) (h5 : a ≠ 5) (h6 : a ≠ 6) (h7 : a ≠ 7) (h18 : a ≠ 18) : qm_it y v k a = v a := by
  funext b f
  exact qm_it_k k h0 h2 h5 h6 h7 h18
theorem qm_wi_14 {z : Int32} (h : qm_wi z 1 4 = true) : ∃ j, 1 ≤ j ∧ j ≤ 4 ∧ z = nI j := by
  simp only [qm_wi, Bool.and_eq_true, decide_eq_true_eq] at h
  obtain ⟨j, hj, rfl⟩ := nI_of (x := z) (fun q => qm_nle q (Int32.le_trans (by decide) h.1))
  have h1 : nI 1 ≤ nI j := h.1
  have h2 : nI j ≤ nI 4 := h.2
  rw [nI_leI (by omega) hj] at h1
  rw [nI_leI hj (by omega)] at h2
  exact ⟨j, h1, h2, rfl⟩
