/-! messages and paths of the class -/
/-- what node i gets when j sends it x, by the sets of the frame -/
def qm_gt (v : qa_M) (j : Nat) (x : Int32) (i : Nat) : Int32 := if qm_in (v 2 i 12) (nI j) = true then qm_says (v 2 j 9) (v 2 j 10) x (nI i) (v 8 0 6) else 0
theorem qm_gt_n {u v : qa_M} (h2 : u 2 = v 2) (h8 : u 8 0 6 = v 8 0 6) : qm_gt u = qm_gt v := by
  funext j x i
  simp only [qm_gt, h2, h8]
/-- a set with one node more -/
def qm_ad (P : Int32) (a : Nat) : Int32 := P ||| (1 <<< (nI a &&& 31))
def qm_S0 (n : Nat) (g : Nat → Int32 → Nat → Int32) (P : Int32) (j : Nat) (x : Int32) (r : Nat) (h : Nat → Int32) : Prop := ∀ i, i < n → qm_in P (nI i) = false → h (r * n + i) = g j x i
def qm_S1 (n : Nat) (g : Nat → Int32 → Nat → Int32) (P : Int32) (j : Nat) (x : Int32) (r : Nat) (h : Nat → Int32) : Prop := qm_S0 n g P j x r h ∧ ∀ a, a < n → qm_in P (nI a) = false → qm_S0 n g (qm_ad P a) a (g j x a) (r * n + 1 + a) h
def qm_S2 (n : Nat) (g : Nat → Int32 → Nat → Int32) (P : Int32) (j : Nat) (x : Int32) (r : Nat) (h : Nat → Int32) : Prop := qm_S0 n g P j x r h ∧ ∀ a, a < n → qm_in P (nI a) = false → qm_S1 n g (qm_ad P a) a (g j x a) (r * n + 1 + a) h
def qm_T0 (n r q : Nat) : Prop := ∃ i, i < n ∧ q = r * n + i
def qm_T1 (n r q : Nat) : Prop := qm_T0 n r q ∨ ∃ a, a < n ∧ qm_T0 n (r * n + 1 + a) q
def qm_T2 (n r q : Nat) : Prop := qm_T0 n r q ∨ ∃ a, a < n ∧ qm_T1 n (r * n + 1 + a) q
theorem qm_S0_n {n : Nat} {g : Nat → Int32 → Nat → Int32} {P : Int32} {j : Nat} {x : Int32} {r : Nat} {h h' : Nat → Int32} (H : qm_S0 n g P j x r h) (hn : ∀ q, qm_T0 n r q → h' q = h q) : qm_S0 n g P j x r h' := fun i hi hP => (hn _ ⟨i, hi, rfl⟩).trans (H i hi hP)
theorem qm_S1_n {n : Nat} {g : Nat → Int32 → Nat → Int32} {P : Int32} {j : Nat} {x : Int32} {r : Nat} {h h' : Nat → Int32} (H : qm_S1 n g P j x r h) (hn : ∀ q, qm_T1 n r q → h' q = h q) : qm_S1 n g P j x r h' :=
  ⟨qm_S0_n H.1 (fun q hq => hn q (Or.inl hq)), fun a ha hP => qm_S0_n (H.2 a ha hP) (fun q hq => hn q (Or.inr ⟨a, ha, hq⟩))⟩
theorem qm_T0_d {n r q : Nat} (h : qm_T0 n r q) : q / n = r := by
  obtain ⟨i, hi, rfl⟩ := h
  rw [Nat.mul_comm, Nat.mul_add_div (by omega), Nat.div_eq_of_lt hi, Nat.add_zero]
theorem qm_n47 {n : Nat} (h4 : 4 ≤ n) (h7 : n ≤ 7) : n = 4 ∨ n = 5 ∨ n = 6 ∨ n = 7 := by omega
/-- the rows of the subtrees are apart -/
theorem qm_T_a {n r a q : Nat} (h4 : 4 ≤ n) (h7 : n ≤ 7) (h : qm_T0 n r q) : ¬ qm_T0 n (r * n + 1 + a) q := by
  intro h2
  have e1 := qm_T0_d h
  have e2 := qm_T0_d h2
  rcases qm_n47 h4 h7 with rfl | rfl | rfl | rfl <;> omega
theorem qm_T_b {n r a b q : Nat} (hab : a ≠ b) (h : qm_T0 n (r * n + 1 + a) q) : ¬ qm_T0 n (r * n + 1 + b) q := by
  intro h2
  have e1 := qm_T0_d h
  have e2 := qm_T0_d h2
  omega
theorem qm_T_c {n a q : Nat} (h4 : 4 ≤ n) (h7 : n ≤ 7) (h : qm_T0 n 0 q) : ¬ qm_T1 n (0 * n + 1 + a) q := by
  intro h2
  have e1 := qm_T0_d h
  rcases h2 with h2 | ⟨b, hb, h2⟩
  · have e2 := qm_T0_d h2
    omega
  · have e2 := qm_T0_d h2
    omega
theorem qm_T_d {n a b q : Nat} (h4 : 4 ≤ n) (h7 : n ≤ 7) (ha : a < n) (hb : b < n) (hab : a ≠ b) (h : qm_T1 n (0 * n + 1 + a) q) : ¬ qm_T1 n (0 * n + 1 + b) q := by
  intro h2
  rcases h with h | ⟨c, hc, h⟩ <;> rcases h2 with h2 | ⟨d, hd, h2⟩ <;> have e1 := qm_T0_d h <;> have e2 := qm_T0_d h2 <;> rcases qm_n47 h4 h7 with rfl | rfl | rfl | rfl <;> omega
/-- the places lie in held -/
theorem qm_hbd {y : qa_L} (h : qa_ok y) : qa_n y ≤ qa_h y ∧ (1 ≤ qa_m y → (qa_n y + 1) * qa_n y ≤ qa_h y) ∧ (2 ≤ qa_m y → ((qa_n y + 1) * qa_n y + 1) * qa_n y ≤ qa_h y) := by
  obtain ⟨-, -, h1, h2, h3, -, -⟩ := h
  have hm : qa_m y = 0 ∨ qa_m y = 1 ∨ qa_m y = 2 := by omega
  unfold qa_h
  rcases hm with e | e | e <;> rcases qm_n47 h1 h2 with f | f | f | f <;> rw [e, f] <;> refine ⟨by decide, by decide, by decide⟩
/-- the greatest that a node bears -/
def qm_bear (m : Nat) (x : Int32) : Int32 := qm_min (nI m) ((qm_bc x - 1) / 3)
def qm_rds (m : Nat) (f : Nat → Int32) : Nat → Int32
  | 0 => 0
  | k + 1 => qm_max (qm_rds m f k) (qm_bear m (f k))
theorem qa_up_up {v : qa_M} {k i f : Nat} {a b : Int32} : qa_up (qa_up v k i f a) k i f b = qa_up v k i f b := by
  funext k' i' f'
  simp only [qa_up]
  split <;> rfl
