/-! parts 4 and 5 of a frame -/
/-- whom i strikes out, among the first k -/
def qm_cv (y : qa_L) (v : qa_M) (i : Nat) : Nat → Int32
  | 0 => 0
  | j + 1 => if j ≠ i ∧ qm_in (v 2 i 11) (nI j) = true ∧ ¬ nI (qm_acc v i j (qa_n y)) < qm_bear (qa_m y) (v 2 i 11) + 1 then qm_ad (qm_cv y v i j) j else qm_cv y v i j
/-- how many nodes the first k nodes strike out -/
def qm_sk (y : qa_L) (v : qa_M) : Nat → Int32
  | 0 => 0
  | i + 1 => qm_sk y v i + qm_bc (qm_cv y v i (qa_n y))
def qm_P4 (y : qa_L) (v : qa_M) : qa_M := fun k i f => if k = 2 ∧ i < qa_n y ∧ f = 11 then v 2 i 11 &&& (qm_cv y v i (qa_n y) ^^^ (-1)) else v k i f
theorem qm_acc_n {u v : qa_M} {i j : Nat} (h2 : u 2 i 11 = v 2 i 11) (h6 : ∀ k, u 6 i k = v 6 i k) (k : Nat) : qm_acc u i j k = qm_acc v i j k := by
  induction k with
  | zero => rfl
  | succ k ih => rw [qm_acc, qm_acc, ih, h2, h6]
theorem qm_cv_n {y : qa_L} {u v : qa_M} {i : Nat} (h2 : u 2 i 11 = v 2 i 11) (h6 : ∀ k, u 6 i k = v 6 i k) (k : Nat) : qm_cv y u i k = qm_cv y v i k := by
  induction k with
  | zero => rfl
  | succ k ih => rw [qm_cv, qm_cv, ih, h2, qm_acc_n h2 h6]
/-- the difference that i reads of j -/
def qm_df (v : qa_M) (i j : Nat) : Int32 := qm_shows (v 2 j 9) (v 2 j 10) (v 2 j 6) (nI i) + v 4 i j - v 2 i 6
def qm_sm (y : qa_L) (v : qa_M) (i : Nat) : Nat → Int32
  | 0 => 0
  | j + 1 => if j ≠ i ∧ qm_in (v 2 i 11) (nI j) = true ∧ ¬ v 2 j 9 = 1 then qm_sm y v i j + (if qm_wi (qm_df v i j) (-(qa_d y + 3)) (qa_d y + 3) = true then qm_df v i j else 0) else qm_sm y v i j
def qm_co (y : qa_L) (v : qa_M) (i : Nat) : Int32 := if qm_bc (v 2 i 11) = 0 then 0 else qm_fd (qm_sm y v i (qa_n y)) (qm_bc (v 2 i 11))
theorem qm_sm_n {y : qa_L} {u v : qa_M} {i : Nat} (h2 : ∀ j f, f ≠ 14 → u 2 j f = v 2 j f) (h4 : ∀ k, u 4 i k = v 4 i k) (k : Nat) : qm_sm y u i k = qm_sm y v i k := by
  induction k with
  | zero => rfl
  | succ k ih =>
    have e : qm_df u i k = qm_df v i k := by
      unfold qm_df
      rw [h2 k 9 (by decide), h2 k 10 (by decide), h2 k 6 (by decide), h2 i 6 (by decide), h4]
    rw [qm_sm, qm_sm, ih, h2 i 11 (by decide), h2 k 9 (by decide), e]
theorem qm_co_n {y : qa_L} {u v : qa_M} {i : Nat} (h2 : ∀ j f, f ≠ 14 → u 2 j f = v 2 j f) (h4 : ∀ k, u 4 i k = v 4 i k) : qm_co y u i = qm_co y v i := by
  unfold qm_co
  rw [qm_sm_n h2 h4, h2 i 11 (by decide)]
def qm_P5 (y : qa_L) (v : qa_M) : qa_M := fun k i f => if k = 2 ∧ i < qa_n y ∧ f = 14 then qm_co y v i else if k = 2 ∧ i < qa_n y ∧ f = 6 then v 2 i 6 + (qm_co y v i + v 2 i 7) else v k i f
