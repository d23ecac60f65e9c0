theorem qb_nz {b : Bool} (h : b = true) : ¬ qb b = 0 := by rw [h]; decide
theorem qb_zf {b : Bool} (h : b = false) : qb b = 0 := by rw [h]; rfl
/-- the rows f and g are the same at the first n places -/
def qm_same (f g : Nat → Int32) : Nat → Bool
  | 0 => true
  | n + 1 => qm_same f g n && decide (f n = g n)
theorem qm_same_s {f g : Nat → Int32} {k : Nat} (h : qm_same f g k = true) (h2 : f k = g k) : qm_same f g (k + 1) = true := by simp [qm_same, h, h2]
theorem qm_same_f {f g : Nat → Int32} {k n : Nat} (hk : k < n) (h : ¬ f k = g k) : qm_same f g n = false := by
  induction n with
  | zero => omega
  | succ n ih =>
    by_cases e : k = n
    · subst e
      simp [qm_same, h]
    · simp [qm_same, ih (by omega)]
theorem qm_same_iff {f g : Nat → Int32} {n : Nat} : qm_same f g n = true ↔ ∀ k, k < n → f k = g k := by
  induction n with
  | zero => simp [qm_same]
  | succ n ih =>
    simp only [qm_same, Bool.and_eq_true, decide_eq_true_eq, ih]
    constructor
    · rintro ⟨a, b⟩ k hk
      by_cases e : k = n
      · rw [e]; exact b
      · exact a k (by omega)
    · intro h
      exact ⟨fun k hk => h k (by omega), h n (by omega)⟩
/-- two nodes hold the same members, words and inputs -/
def qm_alk (y : qa_L) (v : qa_M) (i j : Nat) : Bool := (decide (v 2 i 11 = v 2 j 11) && qm_same (v 7 i) (v 7 j) 4) && qm_same (v 5 i) (v 5 j) (qa_n y)
/-- z is a node's number -/
def qm_isn (n : Nat) (z : Int32) : Bool := qm_wi z 0 (nI n - 1)
def qm_ix (z : Int32) : Nat := z.toNatClampNeg
theorem qm_ix_n {j : Nat} (h : j < 2 ^ 31) : qm_ix (nI j) = j := nI_clamp h
theorem qm_wi_4 {z : Int32} (h : qm_wi z 0 3 = true) : ∃ j, j < 4 ∧ z = nI j := qm_wi_n (n := 4) (by decide) (by decide) h
def qm_fits (n : Nat) (op x : Int32) : Bool := if op = 1 then qm_isn n x else if op = 2 then qm_wi x 0 3 else if op = 8 then qm_wi x 0 11 else true
