/-! truth values as ints, and the small functions of both classes -/
def qb (b : Bool) : Int32 := if b = true then 1 else 0
theorem qb_e0 {b : Bool} (h : qb b = 0) : b = false := by
  cases b with
  | false => rfl
  | true => exact absurd h (by decide)
theorem qb_n0 {b : Bool} (h : ¬ qb b = 0) : b = true := by
  cases b with
  | true => rfl
  | false => exact absurd rfl h
theorem qb_nar (b : Bool) : narrow .boolean (.int (qb b)) = .int (qb b) := by cases b <;> rfl
theorem qb_0 {b : Bool} (h : b = false) : (0 : Int32) = qb b := by rw [h]; rfl
theorem qb_1 {b : Bool} (h : b = true) : (1 : Int32) = qb b := by rw [h]; rfl
theorem qb_t {b : Bool} (h : b = true) : qb b = 1 := by rw [h]; rfl
theorem qb_f {b : Bool} (h : b = false) : qb b = 0 := by rw [h]; rfl
/-- lo ≤ z ≤ hi -/
def qm_wi (z lo hi : Int32) : Bool := decide (lo ≤ z) && decide (z ≤ hi)
/-- bit k of the set x -/
def qm_in (x k : Int32) : Bool := !decide ((x >>> (k &&& 31)) &&& 1 = 0)
theorem qm_wi_t {z lo hi : Int32} (h1 : lo ≤ z) (h2 : z ≤ hi) : qm_wi z lo hi = true := by simp [qm_wi, h1, h2]
theorem qm_wi_f1 {z lo hi : Int32} (h1 : ¬ lo ≤ z) : qm_wi z lo hi = false := by simp [qm_wi, h1]
theorem qm_wi_f2 {z lo hi : Int32} (h2 : ¬ z ≤ hi) : qm_wi z lo hi = false := by simp [qm_wi, h2]
theorem qm_nle {a b : Int32} (h : a < b) : ¬ b ≤ a := by
  rw [Int32.lt_iff_toInt_lt] at h
  rw [Int32.le_iff_toInt_le]
  omega
theorem qm_nlt {a b : Int32} (h : ¬ a < b) : b ≤ a := by
  rw [Int32.lt_iff_toInt_lt] at h
  rw [Int32.le_iff_toInt_le]
  omega
theorem qm_lt {a b : Int32} (h : ¬ b ≤ a) : a < b := by
  rw [Int32.lt_iff_toInt_lt]
  rw [Int32.le_iff_toInt_le] at h
  omega
/-- a node's number, and an int that is none -/
theorem qm_wi_n {z : Int32} {n : Nat} (hn : n < 2 ^ 31) (h0 : 0 < n) (h : qm_wi z 0 (nI n - 1) = true) : ∃ j, j < n ∧ z = nI j := by
  simp only [qm_wi, Bool.and_eq_true, decide_eq_true_eq] at h
  obtain ⟨h1, h2⟩ := h
  have e : nI n - 1 = nI (n - 1) := by
    obtain ⟨k, rfl⟩ : ∃ k, n = k + 1 := ⟨n - 1, by omega⟩
    rw [nI_pred]; rfl
  rw [e] at h2
  obtain ⟨j, hj, rfl⟩ := nI_of (x := z) (fun h => qm_nle h h1)
  rw [nI_leI hj (by omega)] at h2
  exact ⟨j, by omega, rfl⟩
theorem qm_wi_j {j n : Nat} (hn : n < 2 ^ 31) (h : j < n) : qm_wi (nI j) 0 (nI n - 1) = true := by
  have e : nI n - 1 = nI (n - 1) := by
    obtain ⟨k, rfl⟩ : ∃ k, n = k + 1 := ⟨n - 1, by omega⟩
    rw [nI_pred]; rfl
  rw [e]
  exact qm_wi_t (nI_pos' (by omega)) (nI_le (by omega) (by omega))
/-- what a node says, by its kind: v to a node, in a frame -/
def qm_says (kd x v to fr : Int32) : Int32 :=
  if kd = 2 then x else if kd = 3 then (if to - to / 2 * 2 = 0 then v else v + x) else if kd = 4 then v + x * (to + 1) else if kd = 5 then (if fr - fr / 2 * 2 = 0 then v else x) else v
/-- Integer.bitCount, as the library reckons it -/
def qm_min (a b : Int32) : Int32 := if b < a then b else a
def qm_max (a b : Int32) : Int32 := if a < b then b else a
def qm_us (x k : Int32) : Int32 := (x.toUInt32 >>> (k.toUInt32 &&& Int32.toUInt32 31)).toInt32
def qm_b1 (x : Int32) : Int32 := x - (qm_us x 1 &&& 1431655765)
def qm_b2 (x : Int32) : Int32 := (x &&& 858993459) + (qm_us x 2 &&& 858993459)
def qm_b3 (x : Int32) : Int32 := (x + qm_us x 4) &&& 252645135
def qm_b4 (x : Int32) : Int32 := x + qm_us x 8
def qm_b5 (x : Int32) : Int32 := x + qm_us x 16
/-- Integer.bitCount -/
def qm_bc (x : Int32) : Int32 := qm_b5 (qm_b4 (qm_b3 (qm_b2 (qm_b1 x)))) &&& 63
/-- Math.floorDiv -/
def qm_fd (a b : Int32) : Int32 := if 0 ≤ a ^^^ b then a / b else if a / b * b = a then a / b else a / b - 1
theorem qa_fitR {lv LV maxL : Nat} (h : lv < LV) (h2 : maxL ≤ 45) : qa_fit (qa_R LV) 0 0 lv maxL := by
  refine ⟨?_, ?_, Nat.le_refl _, Nat.le_refl _⟩
  · show lv + 1 ≤ LV
    omega
  · show 8 + (maxL + 11) + 64 * lv ≤ 64 * LV
    omega
