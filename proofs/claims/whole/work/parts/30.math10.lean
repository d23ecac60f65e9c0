/-! a frame, in the words of the document, over a memory in the class's names -/
/-- a message of j gets through to i -/
def qm_hr (y : qa_L) (v : qa_M) (j i : Nat) : Bool := qm_in (v 2 i 11) (nI j) && (!decide (v 2 j 9 = 1) && qm_wi (v 2 i 6 - v 2 j 6 + v 3 i j) (-(qa_d y + 20)) (qa_d y + 20))
/-- what i gets when j sends it x -/
def qm_g (y : qa_L) (v : qa_M) (j : Nat) (x : Int32) (i : Nat) : Int32 := if qm_hr y v j i = true then qm_says (v 2 j 9) (v 2 j 10) x (nI i) (v 0 0 11) else 0
/-- how many faults i bears -/
def qm_bn (y : qa_L) (v : qa_M) (i : Nat) : Nat := qm_ix (qm_bear (qa_m y) (v 2 i 11))
/-- what i agrees on of the value x of s -/
def qm_AG (y : qa_L) (v : qa_M) (i s : Nat) (x : Int32) : Int32 := if i = s then x else if qm_in (v 2 i 11) (nI s) = true then qm_ag (qa_n y) (qm_g y v) (v 2 i 11) s x i (qm_bn y v i) else 0
/-- whom i hears, as a set -/
def qm_hm (y : qa_L) (v : qa_M) (i : Nat) : Nat → Int32
  | 0 => 0
  | j + 1 => if j ≠ i ∧ qm_hr y v j i = true then qm_ad (qm_hm y v i j) j else qm_hm y v i j
theorem qm_hm_in {y : qa_L} {v : qa_M} {i : Nat} (k : Nat) (hk : k ≤ 7) {j : Nat} (hj : j < 31) : qm_in (qm_hm y v i k) (nI j) = (decide (j < k) && (!decide (j = i) && qm_hr y v j i)) := by
  induction k with
  | zero => rw [qm_hm, qm_in_0 hj]; simp
  | succ k ih =>
    rw [qm_hm]
    by_cases c : k ≠ i ∧ qm_hr y v k i = true
    · rw [if_pos c, qm_in_ad _ (by omega) hj, ih (by omega)]
      by_cases e : j = k
      · subst e
        simp [c.1, c.2]
      · by_cases h1 : j < k
        · simp [e, h1, Nat.lt_succ_of_lt h1]
        · simp [e, h1, show ¬ j < k + 1 by omega]
    · rw [if_neg c, ih (by omega)]
      by_cases e : j = k
      · subst e
        by_cases h1 : j = i
        · simp [h1]
        · have : qm_hr y v j i = false := Bool.eq_false_iff.mpr (fun q => c ⟨h1, q⟩)
          simp [this]
      · by_cases h1 : j < k
        · simp [h1, Nat.lt_succ_of_lt h1]
        · simp [h1, show ¬ j < k + 1 by omega]
theorem qm_hr_n {y : qa_L} {u v : qa_M} {i j : Nat} (h : ∀ a f, f ≠ 12 → u 2 a f = v 2 a f) (h3 : u 3 i j = v 3 i j) : qm_hr y u j i = qm_hr y v j i := by
  unfold qm_hr
  rw [h i 11 (by decide), h j 9 (by decide), h i 6 (by decide), h j 6 (by decide), h3]
def qm_P0 (y : qa_L) (v : qa_M) : qa_M := fun k i f => if k = 2 ∧ i < qa_n y ∧ f = 12 then qm_hm y v i (qa_n y) else v k i f
def qm_P1 (y : qa_L) (v : qa_M) : qa_M := fun k i f => if k = 5 ∧ i < qa_n y ∧ f < qa_n y then qm_AG y v i f (v 2 f 8) else if k = 2 ∧ i < qa_n y ∧ f = 13 then 0 else v k i f
