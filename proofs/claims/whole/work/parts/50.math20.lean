/-! the reference's memory beside the class's names -/
theorem qn_mul {x z : Int32} {a b : Nat} (h : x = nI a) (h2 : z = nI b) : x * z = nI (a * b) := by rw [h, h2, pk_mul]
theorem qn_add {x z : Int32} {a b : Nat} (h : x = nI a) (h2 : z = nI b) : x + z = nI (a + b) := by rw [h, h2, nI_add]
theorem qa_up_x {v : qa_M} {k i f k' i' f' : Nat} {x : Int32} (h : ¬ (k' = k ∧ i' = i ∧ f' = f)) : qa_up v k i f x k' i' f' = v k' i' f' := by
  unfold qa_up
  exact if_neg h
theorem qm_sg (x : Int32) : bt x 31 = decide (x < 0) := by
  have h : x.toBitVec.msb = decide (x.toBitVec.toInt < 0) := BitVec.msb_eq_toInt
  rw [BitVec.msb_eq_getLsbD_last] at h
  show x.toBitVec.getLsbD 31 = _
  rw [show (31 : Nat) = 32 - 1 from rfl, h]
  apply decide_eq_decide.mpr
  rw [Int32.lt_iff_toInt_lt]
  exact Iff.rfl
theorem qm_xs {a b : Int32} (h : (a < 0 ∧ b < 0) ∨ (¬ a < 0 ∧ ¬ b < 0)) : 0 ≤ a ^^^ b := by
  have e := qm_sg (a ^^^ b)
  rw [b_xor, qm_sg, qm_sg] at e
  refine qm_nlt (fun q => ?_)
  rw [decide_eq_true q] at e
  rcases h with ⟨h1, h2⟩ | ⟨h1, h2⟩
  · rw [decide_eq_true h1, decide_eq_true h2] at e; cases e
  · rw [decide_eq_false h1, decide_eq_false h2] at e; cases e
theorem qm_xd {a b : Int32} (h : (a < 0 ∧ ¬ b < 0) ∨ (¬ a < 0 ∧ b < 0)) : ¬ 0 ≤ a ^^^ b := by
  have e := qm_sg (a ^^^ b)
  rw [b_xor, qm_sg, qm_sg] at e
  intro q
  rw [decide_eq_false (qm_nlt2 q)] at e
  rcases h with ⟨h1, h2⟩ | ⟨h1, h2⟩
  · rw [decide_eq_true h1, decide_eq_false h2] at e; cases e
  · rw [decide_eq_false h1, decide_eq_true h2] at e; cases e
theorem qm_rem0 {a q : Int32} (h : a - q = 0) : q = a := by
  have h2 : a - q + q = 0 + q := by rw [h]
  rw [Int32.sub_add_cancel, Int32.zero_add] at h2
  exact h2.symm
/-- place f of the reference's kind k holds what the class's names a, b, c hold -/
def qm_mu (n k f a b c : Nat) : Prop :=
  (k = 22 ∧ f = 3 ∧ a = 0 ∧ b = 0 ∧ c = 11) ∨
  (f < n ∧ a = 2 ∧ b = f ∧ ((k = 23 ∧ c = 6) ∨ (k = 24 ∧ c = 7) ∨ (k = 25 ∧ c = 8) ∨ (k = 26 ∧ c = 9) ∨ (k = 27 ∧ c = 10) ∨ (k = 28 ∧ c = 11) ∨ (k = 29 ∧ c = 13) ∨ (k = 30 ∧ c = 14))) ∨
  (k = 32 ∧ a = 7 ∧ b < n ∧ c < 4 ∧ f = 4 * b + c) ∨ (k = 32 ∧ a = 18 ∧ b = 0 ∧ c < 4 ∧ f = 28 + c) ∨
  (k = 33 ∧ a = 5 ∧ b < n ∧ c < n ∧ f = 7 * b + c) ∨ (k = 34 ∧ a = 6 ∧ b < n ∧ c < n ∧ f = 7 * b + c) ∨
  (k = 35 ∧ a = 3 ∧ b < n ∧ c < n ∧ f = 7 * c + b) ∨ (k = 36 ∧ a = 4 ∧ b < n ∧ c < n ∧ f = 7 * c + b) ∨
  (k = 37 ∧ a = 14 ∧ b < 4 ∧ c < 12 ∧ f = 12 * b + c) ∨ (k = 38 ∧ a = 15 ∧ b < 4 ∧ c < 12 ∧ f = 12 * b + c) ∨
  (f < 4 ∧ a = 13 ∧ b = f ∧ ((k = 39 ∧ c = 2) ∨ (k = 40 ∧ c = 3) ∨ (k = 41 ∧ c = 4)))
set_option maxHeartbeats 4000000 in
theorem qm_mu_f {n k f a b c k' f' : Nat} (h7 : n ≤ 7) (h : qm_mu n k f a b c) (h' : qm_mu n k' f' a b c) : k' = k ∧ f' = f := by
  unfold qm_mu at h h'
  rcases h with h | h | h | h | h | h | h | h | h | h | h <;> rcases h' with h' | h' | h' | h' | h' | h' | h' | h' | h' | h' | h' <;> omega
set_option maxHeartbeats 4000000 in
theorem qm_mu_b {n k f a b c a' b' c' : Nat} (h7 : n ≤ 7) (h : qm_mu n k f a b c) (h' : qm_mu n k f a' b' c') : a' = a ∧ b' = b ∧ c' = c := by
  unfold qm_mu at h h'
  rcases h with h | h | h | h | h | h | h | h | h | h | h <;> rcases h' with h' | h' | h' | h' | h' | h' | h' | h' | h' | h' | h' <;> omega
/-- the reference's memory v stands for the state w, which is in the class's names -/
def qm_RM (n : Nat) (w v : qa_M) : Prop := (∀ k f a b c, qm_mu n k f a b c → v k 0 f = w a b c) ∧ ∀ j, j < 7 → v 33 0 (49 + j) = 0
/-- places of the reference that stand for something -/
def qm_Mp (n k f : Nat) : Prop := (∃ a b c, qm_mu n k f a b c) ∨ (k = 33 ∧ 49 ≤ f)
theorem qm_RM_up {n : Nat} {w v : qa_M} {k f a b c : Nat} {x : Int32} (h7 : n ≤ 7) (h : qm_RM n w v) (hm : qm_mu n k f a b c) : qm_RM n (qa_up w a b c x) (qa_up v k 0 f x) := by
  refine ⟨fun k' f' a' b' c' hm' => ?_, fun j hj => ?_⟩
  · by_cases q : k' = k ∧ f' = f
    · obtain ⟨rfl, rfl⟩ := q
      obtain ⟨rfl, rfl, rfl⟩ := qm_mu_b h7 hm hm'
      rw [qa_up_s, qa_up_s]
    · rw [qa_up_x (fun z => q ⟨z.1, z.2.2⟩), qa_up_x]
      · exact h.1 k' f' a' b' c' hm'
      · rintro ⟨rfl, rfl, rfl⟩
        exact q (qm_mu_f h7 hm hm')
  · rw [qa_up_x]
    · exact h.2 j hj
    · rintro ⟨rfl, -, rfl⟩
      unfold qm_mu at hm
      omega
/-- a write beside them -/
theorem qm_RM_v {n : Nat} {w v : qa_M} {k f : Nat} {x : Int32} (h : qm_RM n w v) (hk : (k = 22 ∧ f ≠ 3) ∨ k = 31 ∨ k = 42 ∨ k = 43) : qm_RM n w (qa_up v k 0 f x) := by
  refine ⟨fun k' f' a' b' c' hm' => ?_, fun j hj => ?_⟩
  · rw [← h.1 k' f' a' b' c' hm']
    rw [qa_up_x]
    rintro ⟨rfl, -, rfl⟩
    unfold qm_mu at hm'
    omega
  · rw [← h.2 j hj]
    rw [qa_up_x]
    omega
/-- another memory that is the same there -/
theorem qm_RM_n {n : Nat} {w v u : qa_M} (h : qm_RM n w v) (hu : ∀ k i f, ¬ (k = 22 ∧ f ≠ 3) → k ≠ 31 → k ≠ 42 → k ≠ 43 → 22 ≤ k → u k i f = v k i f) : qm_RM n w u := by
  refine ⟨fun k' f' a' b' c' hm' => ?_, fun j hj => ?_⟩
  · rw [← h.1 k' f' a' b' c' hm']
    unfold qm_mu at hm'
    exact hu k' 0 f' (by omega) (by omega) (by omega) (by omega) (by omega)
  · rw [← h.2 j hj]
    exact hu 33 0 _ (by omega) (by omega) (by omega) (by omega) (by omega)
/-- another state that is the same at the places that count -/
theorem qm_RM_s {n : Nat} {w w' v : qa_M} (h : qm_RM n w v) (hw : ∀ k f a b c, qm_mu n k f a b c → w' a b c = w a b c) : qm_RM n w' v := ⟨fun k f a b c hm => (h.1 k f a b c hm).trans (hw k f a b c hm).symm, h.2⟩
section QR
variable {n : Nat} {w v : qa_M} {i j t p : Nat}
theorem qr_frm (h : qm_RM n w v) : v 22 0 3 = w 0 0 11 := h.1 22 3 0 0 11 (Or.inl ⟨rfl, rfl, rfl, rfl, rfl⟩)
theorem qr_2 (h : qm_RM n w v) (hi : i < n) {k c : Nat} (hk : (k = 23 ∧ c = 6) ∨ (k = 24 ∧ c = 7) ∨ (k = 25 ∧ c = 8) ∨ (k = 26 ∧ c = 9) ∨ (k = 27 ∧ c = 10) ∨ (k = 28 ∧ c = 11) ∨ (k = 29 ∧ c = 13) ∨ (k = 30 ∧ c = 14)) : v k 0 i = w 2 i c := h.1 k i 2 i c (Or.inr (Or.inl ⟨hi, rfl, rfl, hk⟩))
theorem qr_clk (h : qm_RM n w v) (hi : i < n) : v 23 0 i = w 2 i 6 := qr_2 h hi (by omega)
theorem qr_drf (h : qm_RM n w v) (hi : i < n) : v 24 0 i = w 2 i 7 := qr_2 h hi (by omega)
theorem qr_sen (h : qm_RM n w v) (hi : i < n) : v 25 0 i = w 2 i 8 := qr_2 h hi (by omega)
theorem qr_knd (h : qm_RM n w v) (hi : i < n) : v 26 0 i = w 2 i 9 := qr_2 h hi (by omega)
theorem qr_ext (h : qm_RM n w v) (hi : i < n) : v 27 0 i = w 2 i 10 := qr_2 h hi (by omega)
theorem qr_msk (h : qm_RM n w v) (hi : i < n) : v 28 0 i = w 2 i 11 := qr_2 h hi (by omega)
theorem qr_blm (h : qm_RM n w v) (hi : i < n) : v 29 0 i = w 2 i 13 := qr_2 h hi (by omega)
theorem qr_shf (h : qm_RM n w v) (hi : i < n) : v 30 0 i = w 2 i 14 := qr_2 h hi (by omega)
theorem qr_wrd (h : qm_RM n w v) (hi : i < n) (ht : t < 4) : v 32 0 (4 * i + t) = w 7 i t := h.1 _ _ _ _ _ (Or.inr (Or.inr (Or.inl ⟨rfl, rfl, hi, ht, rfl⟩)))
theorem qr_sol (h : qm_RM n w v) (ht : t < 4) : v 32 0 (28 + t) = w 18 0 t := h.1 _ _ _ _ _ (Or.inr (Or.inr (Or.inr (Or.inl ⟨rfl, rfl, rfl, ht, rfl⟩))))
theorem qr_inp (h : qm_RM n w v) (hi : i < n) (hj : j < n) : v 33 0 (7 * i + j) = w 5 i j := h.1 _ _ _ _ _ (Or.inr (Or.inr (Or.inr (Or.inr (Or.inl ⟨rfl, rfl, hi, hj, rfl⟩)))))
theorem qr_chg (h : qm_RM n w v) (hi : i < n) (hj : j < n) : v 34 0 (7 * i + j) = w 6 i j := h.1 _ _ _ _ _ (Or.inr (Or.inr (Or.inr (Or.inr (Or.inr (Or.inl ⟨rfl, rfl, hi, hj, rfl⟩))))))
theorem qr_dly (h : qm_RM n w v) (hi : i < n) (hj : j < n) : v 35 0 (7 * j + i) = w 3 i j := h.1 _ _ _ _ _ (Or.inr (Or.inr (Or.inr (Or.inr (Or.inr (Or.inr (Or.inl ⟨rfl, rfl, hi, hj, rfl⟩)))))))
theorem qr_err (h : qm_RM n w v) (hi : i < n) (hj : j < n) : v 36 0 (7 * j + i) = w 4 i j := h.1 _ _ _ _ _ (Or.inr (Or.inr (Or.inr (Or.inr (Or.inr (Or.inr (Or.inr (Or.inl ⟨rfl, rfl, hi, hj, rfl⟩))))))))
theorem qr_ops (h : qm_RM n w v) (ht : t < 4) (hp : p < 12) : v 37 0 (12 * t + p) = w 14 t p := h.1 _ _ _ _ _ (Or.inr (Or.inr (Or.inr (Or.inr (Or.inr (Or.inr (Or.inr (Or.inr (Or.inl ⟨rfl, rfl, ht, hp, rfl⟩)))))))))
theorem qr_arg (h : qm_RM n w v) (ht : t < 4) (hp : p < 12) : v 38 0 (12 * t + p) = w 15 t p := h.1 _ _ _ _ _ (Or.inr (Or.inr (Or.inr (Or.inr (Or.inr (Or.inr (Or.inr (Or.inr (Or.inr (Or.inl ⟨rfl, rfl, ht, hp, rfl⟩))))))))))
theorem qr_13 (h : qm_RM n w v) (ht : t < 4) {k c : Nat} (hk : (k = 39 ∧ c = 2) ∨ (k = 40 ∧ c = 3) ∨ (k = 41 ∧ c = 4)) : v k 0 t = w 13 t c := h.1 _ _ _ _ _ (Or.inr (Or.inr (Or.inr (Or.inr (Or.inr (Or.inr (Or.inr (Or.inr (Or.inr (Or.inr ⟨ht, rfl, rfl, hk⟩))))))))))
end QR
/-- a number of the reference's test -/
theorem qm_isn_m {n : Nat} {z : Int32} (h0 : 0 < n) (hn : n < 1000) : qm_isn n z = (decide (0 ≤ z) && decide (z < nI n)) := by
  unfold qm_isn qm_wi
  have e : nI n - 1 = nI (n - 1) := by
    obtain ⟨k, rfl⟩ : ∃ k, n = k + 1 := ⟨n - 1, by omega⟩
    rw [nI_pred]; rfl
  rw [e]
  congr 1
  apply decide_eq_decide.mpr
  rw [Int32.le_iff_toInt_le, Int32.lt_iff_toInt_lt, nI_toInt (by omega), nI_toInt (by omega)]
  omega
theorem qm_in_1t {x k : Int32} (h : (x >>> (k &&& 31)) &&& 1 = 1) : qm_in x k = true := by
  unfold qm_in
  rw [h]
  decide
theorem qm_in_1f {x k : Int32} (h : ¬ (x >>> (k &&& 31)) &&& 1 = 1) : qm_in x k = false := by
  unfold qm_in
  generalize x >>> (k &&& 31) = z at h ⊢
  have e : z &&& 1 = 0 := by
    apply b_ext
    intro i hi
    rw [b_0, b_and, b_1 i hi]
    by_cases q : i = 0
    · subst q
      cases q2 : bt z 0 with
      | false => rfl
      | true =>
        refine absurd (b_ext (fun j hj => ?_)) h
        rw [b_and, b_1 j hj]
        by_cases q3 : j = 0
        · subst q3; rw [q2]; rfl
        · rw [decide_eq_false q3, Bool.and_false]
    · rw [decide_eq_false q, Bool.and_false]
  rw [e]
  decide
theorem qm_pc_t {k : Nat} {x : Int32} (h : qm_in x (nI k) = true) : qm_pc (k + 1) x = qm_pc k x + 1 := by
  unfold qm_pc
  rw [List.range_succ, List.filter_append, List.length_append]
  simp [h]
theorem qm_pc_f {k : Nat} {x : Int32} (h : qm_in x (nI k) = false) : qm_pc (k + 1) x = qm_pc k x := by
  unfold qm_pc
  rw [List.range_succ, List.filter_append, List.length_append]
  simp [h]
