/-! between the calls of the law -/
theorem qL_add {a b : Int32} (h1 : -1000000000 ≤ a.toInt ∧ a.toInt ≤ 1000000000) (h2 : -1000000000 ≤ b.toInt ∧ b.toInt ≤ 1000000000) : (a + b).toInt = a.toInt + b.toInt := by
  rw [Int32.toInt_add]
  exact Int.bmod_eq_of_le (by omega) (by omega)
theorem qL_sm {y : qa_L} {v : qa_M} {i : Nat} (hd1 : 1 ≤ (qa_d y).toInt) (hd2 : (qa_d y).toInt ≤ 200) (j : Nat) (hj : j ≤ 7) : -(203 * (j : Int)) ≤ (qm_sm y v i j).toInt ∧ (qm_sm y v i j).toInt ≤ 203 * (j : Int) := by
  induction j with
  | zero =>
    rw [qm_sm]
    exact ⟨by decide, by decide⟩
  | succ j ih =>
    have ih := ih (by omega)
    rw [qm_sm]
    split
    · have h3 : ((3 : Int32)).toInt = 3 := by decide
      have hs : (qa_d y + 3).toInt = (qa_d y).toInt + 3 := by
        rw [qL_add (by omega) (by omega), h3]
      have hn : (-(qa_d y + 3)).toInt = -((qa_d y).toInt + 3) := by
        rw [Int32.toInt_neg, hs]
        exact Int.bmod_eq_of_le (by omega) (by omega)
      generalize hz : (if qm_wi (qm_df v i j) (-(qa_d y + 3)) (qa_d y + 3) = true then qm_df v i j else 0) = z
      have hb : -203 ≤ z.toInt ∧ z.toInt ≤ 203 := by
        rw [← hz]
        split
        · rename_i q
          unfold qm_wi at q
          simp only [Bool.and_eq_true, decide_eq_true_eq, Int32.le_iff_toInt_le] at q
          omega
        · exact ⟨by decide, by decide⟩
      rw [qL_add (by omega) (by omega)]
      omega
    · omega
theorem qL_div {a b : Int32} (h : -100000 ≤ a.toInt ∧ a.toInt ≤ 100000) : -100000 ≤ (a / b).toInt ∧ (a / b).toInt ≤ 100000 ∧ (a / b).toInt.natAbs ≤ a.toInt.natAbs := by
  have h1 : (a.toInt.tdiv b.toInt).natAbs ≤ a.toInt.natAbs := by
    rw [Int.natAbs_tdiv]
    exact Nat.div_le_self _ _
  have e : (a / b).toInt = a.toInt.tdiv b.toInt := by
    rw [Int32.toInt_div]
    exact Int.bmod_eq_of_le (by omega) (by omega)
  rw [e]
  omega
theorem qL_fd {a b : Int32} (h : -1421 ≤ a.toInt ∧ a.toInt ≤ 1421) : -1422 ≤ (qm_fd a b).toInt ∧ (qm_fd a b).toInt ≤ 1422 := by
  have hd := qL_div (a := a) (b := b) (by omega)
  have h1 : -1421 ≤ (a / b).toInt ∧ (a / b).toInt ≤ 1421 := by omega
  unfold qm_fd
  split
  · omega
  · split
    · omega
    · have e1 : ((1 : Int32)).toInt = 1 := by decide
      rw [qm_sub_i (by omega) (by omega), e1]
      omega
theorem qL_co {y : qa_L} {v : qa_M} {i : Nat} (h7 : qa_n y ≤ 7) (hd1 : 1 ≤ (qa_d y).toInt) (hd2 : (qa_d y).toInt ≤ 200) : -1422 ≤ (qm_co y v i).toInt ∧ (qm_co y v i).toInt ≤ 1422 := by
  unfold qm_co
  split
  · exact ⟨by decide, by decide⟩
  · have h := qL_sm (y := y) (v := v) (i := i) hd1 hd2 (qa_n y) h7
    exact qL_fd (by omega)
/-- clocks and drifts in bounds -/
def qL_B (y : qa_L) (F : Nat) (u : qa_M) : Prop := ∀ i, i < qa_n y → (-(500 + 2000 * (F : Int)) ≤ (u 2 i 6).toInt ∧ (u 2 i 6).toInt ≤ 500 + 2000 * (F : Int)) ∧ -2 ≤ (u 2 i 7).toInt ∧ (u 2 i 7).toInt ≤ 2
theorem qL_B_n {y : qa_L} {F : Nat} {u v : qa_M} (h6 : ∀ i, u 2 i 6 = v 2 i 6) (h7 : ∀ i, u 2 i 7 = v 2 i 7) (h : qL_B y F v) : qL_B y F u := fun i hi => by rw [h6, h7]; exact h i hi
theorem qL_FR_6 {y : qa_L} {v : qa_M} {i : Nat} (hi : i < qa_n y) : qm_FR y v 2 i 6 = v 2 i 6 + (qm_co y (qm_P4 y (qm_F3 y v)) i + v 2 i 7) := by
  unfold qm_FR
  rw [qa_up_k (by decide)]
  unfold qm_P5
  rw [if_neg (fun z => absurd z.2.2 (by decide)), if_pos ⟨rfl, hi, rfl⟩]
  have e6 : qm_P4 y (qm_F3 y v) 2 i 6 = v 2 i 6 := by
    unfold qm_P4
    rw [if_neg (fun z => absurd z.2.2 (by decide)), qm_F3_11 (by decide) (by decide)]
  have e7 : qm_P4 y (qm_F3 y v) 2 i 7 = v 2 i 7 := by
    unfold qm_P4
    rw [if_neg (fun z => absurd z.2.2 (by decide)), qm_F3_11 (by decide) (by decide)]
  rw [e6, e7]
theorem qL_FR_7 {y : qa_L} {v : qa_M} {i : Nat} : qm_FR y v 2 i 7 = v 2 i 7 := by
  unfold qm_FR
  rw [qa_up_k (by decide)]
  unfold qm_P5
  rw [if_neg (fun z => absurd z.2.2 (by decide)), if_neg (fun z => absurd z.2.2 (by decide))]
  unfold qm_P4
  rw [if_neg (fun z => absurd z.2.2 (by decide)), qm_F3_11 (by decide) (by decide)]
theorem qL_B_FR {y : qa_L} {F : Nat} {v : qa_M} (hok : qa_ok y) (hF : F ≤ 100000) (h : qL_B y F v) : qL_B y (F + 1) (qm_FR y v) := by
  intro i hi
  obtain ⟨⟨a1, a2⟩, b1, b2⟩ := h i hi
  have hc := qL_co (y := y) (v := qm_P4 y (qm_F3 y v)) (i := i) hok.2.2.2.1 hok.2.2.2.2.2.1 hok.2.2.2.2.2.2
  rw [qL_FR_6 hi, qL_FR_7]
  have e1 : (qm_co y (qm_P4 y (qm_F3 y v)) i + v 2 i 7).toInt = (qm_co y (qm_P4 y (qm_F3 y v)) i).toInt + (v 2 i 7).toInt := qL_add (by omega) (by omega)
  have e2 : (v 2 i 6 + (qm_co y (qm_P4 y (qm_F3 y v)) i + v 2 i 7)).toInt = (v 2 i 6).toInt + ((qm_co y (qm_P4 y (qm_F3 y v)) i).toInt + (v 2 i 7).toInt) := by
    rw [qL_add (by omega) (by omega), e1]
  rw [e2]
  omega
theorem qL_B_it {y : qa_L} {F : Nat} {v : qa_M} (hok : qa_ok y) (k : Nat) (hF : F + k ≤ 100000) (h : qL_B y F v) : qL_B y (F + k) (qm_it y v k) := by
  induction k with
  | zero => exact h
  | succ k ih => exact qL_B_FR (F := F + k) hok (by omega) (ih (by omega))
def qL_J (y : qa_L) (F : Nat) (u : qa_M) : Prop := qm_mok y u ∧ qm_pok (qa_n y) u ∧ u 19 0 = (fun _ => 0) ∧ u 0 0 11 = nI F ∧ qL_B y F u
def qL_I (y : qa_L) (F : Nat) (u : qa_M) : Prop := qm_RM (qa_n y) u u ∧ qL_J y F u
theorem qL_J_n {y : qa_L} {F : Nat} {u v : qa_M} (h0 : u 0 = v 0) (h2 : u 2 = v 2) (h13 : u 13 = v 13) (h14 : u 14 = v 14) (h15 : u 15 = v 15) (h19 : u 19 = v 19) (h : qL_J y F v) : qL_J y F u := by
  obtain ⟨a, b, c, d, e⟩ := h
  exact ⟨qm_mok_n (fun i => by rw [h2]) a, qm_pok_n h13 h14 h15 b, by rw [h19]; exact c, by rw [h0]; exact d, qL_B_n (fun i => by rw [h2]) (fun i => by rw [h2]) e⟩
theorem qL_low {u v : qa_M} (h : ∀ c b f, c < 22 → u c b f = v c b f) (k : Nat) (hk : k < 22) : u k = v k := by
  funext b f
  exact h k b f hk
theorem qL_mu_a {n k f a b c : Nat} (h : qm_mu n k f a b c) : a = 0 ∨ a = 2 ∨ a = 3 ∨ a = 4 ∨ a = 5 ∨ a = 6 ∨ a = 7 ∨ a = 13 ∨ a = 14 ∨ a = 15 ∨ a = 18 := by
  rcases h with h | h | h | h | h | h | h | h | h | h | h <;> omega
/-- behind a call of the reference -/
theorem qL_step {y : qa_L} {F : Nat} {T u1 u2 : qa_M} (he : qm_eq u1 T) (hR : qm_RM (qa_n y) T u2) (h2 : ∀ c b f, c < 22 → u2 c b f = u1 c b f) (hJ : qL_J y F T) : qL_I y F u2 := by
  have e : ∀ a, (a = 0 ∨ a = 2 ∨ a = 3 ∨ a = 4 ∨ a = 5 ∨ a = 6 ∨ a = 7 ∨ a = 13 ∨ a = 14 ∨ a = 15 ∨ a = 18 ∨ a = 19) → u2 a = T a := fun a ha => by
    rw [qL_low h2 a (by omega), he a (by omega) (by omega) (by omega) (by omega) (by omega) (by omega) (by omega)]
  refine ⟨qm_RM_s hR (fun k f a b c hm => ?_), qL_J_n (e 0 (by omega)) (e 2 (by omega)) (e 13 (by omega)) (e 14 (by omega)) (e 15 (by omega)) (e 19 (by omega)) hJ⟩
  rw [e a (by have := qL_mu_a hm; omega)]
/-- behind a call of the class -/
theorem qL_RM_c {n : Nat} {u u1 : qa_M} (h : qm_RM n u u) (h2 : ∀ c, 22 ≤ c → u1 c = u c) : qm_RM n u u1 := qm_RM_n h (fun k i f _ _ _ _ h22 => by rw [h2 k h22])
theorem qL_J_up {y : qa_L} {F k i f : Nat} {x : Int32} {v : qa_M} (hk : (k = 2 ∧ f ≠ 6 ∧ f ≠ 7 ∧ f ≠ 11) ∨ k = 3 ∨ k = 4 ∨ (k = 13 ∧ f ≠ 2)) (h : qL_J y F v) : qL_J y F (qa_up v k i f x) := by
  obtain ⟨a, b, c, d, e⟩ := h
  have n0 : ∀ k' i' f', ¬ (k' = k ∧ i' = i ∧ f' = f) → qa_up v k i f x k' i' f' = v k' i' f' := fun k' i' f' q => if_neg q
  refine ⟨qm_mok_n (fun i' => n0 _ _ _ (by omega)) a, fun t ht => ?_, ?_, ?_, qL_B_n (fun i' => n0 _ _ _ (by omega)) (fun i' => n0 _ _ _ (by omega)) e⟩
  · obtain ⟨L, l1, l2, l3⟩ := b t ht
    refine ⟨L, l1, by rw [n0 _ _ _ (by omega)]; exact l2, fun z hz => ?_⟩
    rw [n0 _ _ _ (by omega), n0 _ _ _ (by omega)]
    exact l3 z hz
  · rw [qa_up_kk (by omega)]; exact c
  · rw [n0 _ _ _ (by omega)]; exact d
theorem qL_clock {y : qa_L} {F : Nat} {z a b : Int32} {v : qa_M} (hC : (qm_isn (qa_n y) z && (qm_wi a (-500) 500 && qm_wi b (-2) 2)) = true) (h : qL_J y F v) : qL_J y F (qa_up (qa_up v 2 (qm_ix z) 6 a) 2 (qm_ix z) 7 b) := by
  obtain ⟨h1, h2, h3, h4, h5⟩ := h
  rw [Bool.and_eq_true, Bool.and_eq_true] at hC
  obtain ⟨-, ca, cb⟩ := hC
  unfold qm_wi at ca cb
  simp only [Bool.and_eq_true, decide_eq_true_eq, Int32.le_iff_toInt_le] at ca cb
  have k1 : (-500 : Int32).toInt = -500 := by decide
  have k2 : (500 : Int32).toInt = 500 := by decide
  have k3 : (-2 : Int32).toInt = -2 := by decide
  have k4 : (2 : Int32).toInt = 2 := by decide
  refine ⟨qm_mok_n (fun i' => ?_) h1, qm_pok_n ?_ ?_ ?_ h2, ?_, ?_, fun i hi => ?_⟩
  · rw [qa_up_f (by decide), qa_up_f (by decide)]
  · rw [qa_up_kk (by decide), qa_up_kk (by decide)]
  · rw [qa_up_kk (by decide), qa_up_kk (by decide)]
  · rw [qa_up_kk (by decide), qa_up_kk (by decide)]
  · rw [qa_up_kk (by decide), qa_up_kk (by decide)]; exact h3
  · rw [qa_up_k (by decide), qa_up_k (by decide)]; exact h4
  · have hb := h5 i hi
    rw [qa_up_f (show 6 ≠ 7 by decide)]
    by_cases e : i = qm_ix z
    · rw [e, qa_up_s, qa_up_s]
      omega
    · rw [qa_up_i e, qa_up_i e, qa_up_i e]
      exact hb
theorem qL_clear {y : qa_L} {F : Nat} {z : Int32} {v : qa_M} (h : qL_J y F v) : qL_J y F (qa_up (qa_up v 13 (qm_ix z) 2 0) 13 (qm_ix z) 3 0) := by
  refine qL_J_up (by omega) ?_
  obtain ⟨h1, h2, h3, h4, h5⟩ := h
  refine ⟨qm_mok_n (fun i' => by rw [qa_up_k (by decide)]) h1, fun t ht => ?_, by rw [qa_up_kk (by decide)]; exact h3, by rw [qa_up_k (by decide)]; exact h4, qL_B_n (fun i => by rw [qa_up_k (by decide)]) (fun i => by rw [qa_up_k (by decide)]) h5⟩
  by_cases e : t = qm_ix z
  · rw [e, qa_up_s]
    exact ⟨0, by omega, rfl, fun z hz => absurd hz (Nat.not_lt_zero _)⟩
  · obtain ⟨L, l1, l2, l3⟩ := h2 t ht
    refine ⟨L, l1, by rw [qa_up_i e]; exact l2, fun z hz => ?_⟩
    rw [qa_up_k (by decide), qa_up_k (by decide)]
    exact l3 z hz
theorem qL_wi {n : Nat} {z : Int32} (hn : n < 2 ^ 31) (h : qm_wi z 0 (nI n) = true) : ∃ j, j ≤ n ∧ z = nI j := by
  unfold qm_wi at h
  simp only [Bool.and_eq_true, decide_eq_true_eq, Int32.le_iff_toInt_le] at h
  have e0 : (0 : Int32).toInt = 0 := by decide
  have en : (nI n).toInt = n := nI_toInt hn
  refine ⟨z.toInt.toNat, by omega, Int32.toInt_inj.mp ?_⟩
  rw [nI_toInt (by omega)]
  omega
theorem qL_iok {n : Nat} {a b : Int32} (h4 : 4 ≤ n) (h7 : n ≤ 7) (h : (qm_wi a 0 9 && qm_fits n a b) = true) : qm_iok n a b := by
  rw [Bool.and_eq_true] at h
  obtain ⟨h1, h2⟩ := h
  unfold qm_fits at h2
  refine ⟨qL_wi (n := 9) (by decide) h1, fun e => ?_, fun e => ?_, fun e => ?_⟩
  · rw [if_pos e] at h2
    exact qm_wi_n (by omega) (by omega) h2
  · rw [if_neg (by rw [e]; decide), if_pos e] at h2
    exact qm_wi_4 h2
  · rw [if_neg (by rw [e]; decide), if_neg (by rw [e]; decide), if_pos e] at h2
    exact qL_wi (n := 11) (by decide) h2
theorem qL_code {y : qa_L} {F : Nat} {z a b : Int32} {v : qa_M} {len : Nat → Nat} (h4' : 4 ≤ qa_n y) (h7' : qa_n y ≤ 7) (hlen : ∀ t, t < 4 → v 13 t 2 = nI (len t) ∧ len t ≤ 12) (hC : (qm_wi z 0 3 && (qm_wi a 0 9 && qm_fits (qa_n y) a b)) = true) (hl : len (qm_ix z) < 12) (h : qL_J y F v) : qL_J y F (qa_up (qa_up (qa_up v 14 (qm_ix z) (len (qm_ix z)) a) 15 (qm_ix z) (len (qm_ix z)) b) 13 (qm_ix z) 2 (nI (len (qm_ix z) + 1))) := by
  obtain ⟨h1, h2, h3, h4, h5⟩ := h
  rw [Bool.and_eq_true] at hC
  have hio := qL_iok h4' h7' hC.2
  refine ⟨qm_mok_n (fun i' => by rw [qa_up_k (by decide), qa_up_k (by decide), qa_up_k (by decide)]) h1, fun t ht => ?_, by rw [qa_up_kk (by decide), qa_up_kk (by decide), qa_up_kk (by decide)]; exact h3, by rw [qa_up_k (by decide), qa_up_k (by decide), qa_up_k (by decide)]; exact h4, qL_B_n (fun i => by rw [qa_up_k (by decide), qa_up_k (by decide), qa_up_k (by decide)]) (fun i => by rw [qa_up_k (by decide), qa_up_k (by decide), qa_up_k (by decide)]) h5⟩
  obtain ⟨L, l1, l2, l3⟩ := h2 t ht
  by_cases e : t = qm_ix z
  · have hL : L = len (qm_ix z) := by
      have q := (hlen t ht).1
      rw [l2, e] at q
      exact (nI_eq (by omega) (by omega)).mp q
    refine ⟨len (qm_ix z) + 1, by omega, by rw [e, qa_up_s], fun j hj => ?_⟩
    have e14 : qa_up (qa_up (qa_up v 14 (qm_ix z) (len (qm_ix z)) a) 15 (qm_ix z) (len (qm_ix z)) b) 13 (qm_ix z) 2 (nI (len (qm_ix z) + 1)) 14 t j = qa_up v 14 (qm_ix z) (len (qm_ix z)) a 14 t j := by
      rw [qa_up_k (by decide), qa_up_k (by decide)]
    have e15 : qa_up (qa_up (qa_up v 14 (qm_ix z) (len (qm_ix z)) a) 15 (qm_ix z) (len (qm_ix z)) b) 13 (qm_ix z) 2 (nI (len (qm_ix z) + 1)) 15 t j = qa_up (qa_up v 14 (qm_ix z) (len (qm_ix z)) a) 15 (qm_ix z) (len (qm_ix z)) b 15 t j := by
      rw [qa_up_k (by decide)]
    rw [e14, e15]
    by_cases ej : j = len (qm_ix z)
    · rw [e, ej, qa_up_s, qa_up_s]
      exact hio
    · rw [qa_up_f ej, qa_up_f ej, qa_up_k (by decide)]
      exact l3 j (by omega)
  · refine ⟨L, l1, by rw [qa_up_i e, qa_up_k (by decide), qa_up_k (by decide)]; exact l2, fun j hj => ?_⟩
    rw [qa_up_i e, qa_up_i e, qa_up_i e, qa_up_i e, qa_up_i e, qa_up_i e]
    exact l3 j hj
theorem qL_run {y : qa_L} {F k : Nat} {v : qa_M} (hok : qa_ok y) (hF : F + k ≤ 100000) (h : qL_J y F v) : qL_J y (F + k) (qm_it y v k) := by
  obtain ⟨h1, h2, h3, h4, h5⟩ := h
  exact ⟨qm_mok_it hok.2.2.2.1 h1 k, qm_pok_n (qm_it_kk k (by decide) (by decide) (by decide) (by decide) (by decide) (by decide)) (qm_it_kk k (by decide) (by decide) (by decide) (by decide) (by decide) (by decide)) (qm_it_kk k (by decide) (by decide) (by decide) (by decide) (by decide) (by decide)) h2, by rw [qm_it_kk k (by decide) (by decide) (by decide) (by decide) (by decide) (by decide)]; exact h3, qm_it_f h4 k, qL_B_it hok k hF h5⟩
theorem qL_J_mono {y : qa_L} {F : Nat} {u : qa_M} (h : qL_I y F u) (hF : F ≤ 100000) : qm_cok (qa_n y) u := fun i hi => by
  have := (h.2.2.2.2.2 i hi).1
  omega
theorem qL_len {y : qa_L} {F : Nat} {u : qa_M} (h : qL_J y F u) : ∀ t, t < 4 → u 13 t 2 = nI (qm_ix (u 13 t 2)) ∧ qm_ix (u 13 t 2) ≤ 12 := fun t ht => by
  obtain ⟨L, l1, l2, -⟩ := h.2.1 t ht
  rw [l2, qm_ix_n (by omega)]
  exact ⟨rfl, l1⟩
theorem qL_mk {y : qa_L} {F : Nat} {u : qa_M} (h : qL_I y F u) : ∀ i, i < qa_n y → ∃ a, a < 2 ^ qa_n y ∧ u 28 0 i = nI a := fun i hi => by
  have e : u 28 0 i = u 2 i 11 := h.1.1 28 i 2 i 11 (Or.inr (Or.inl ⟨hi, rfl, rfl, by omega⟩))
  rw [e]
  exact (h.2.1 i hi).1
theorem qL_bear {y : qa_L} {F : Nat} {u : qa_M} {z : Int32} (h : qL_I y F u) (h4 : 4 ≤ qa_n y) (h7 : qa_n y ≤ 7) : (if qm_isn (qa_n y) z = true then qm_min (nI (qa_m y)) ((qm_bc (u 2 (qm_ix z) 11) - 1) / 3) else 0) = if qm_isn (qa_n y) z = true then qm_bear (qa_m y) (u 28 0 (qm_ix z)) else 0 := by
  by_cases g : qm_isn (qa_n y) z = true
  · rw [if_pos g, if_pos g]
    obtain ⟨i, hi, rfl⟩ := qm_wi_n (by omega) (by omega) g
    rw [qm_ix_n (by omega), show u 28 0 i = u 2 i 11 from h.1.1 28 i 2 i 11 (Or.inr (Or.inl ⟨hi, rfl, rfl, by omega⟩))]
    rfl
  · rw [if_neg g, if_neg g]
/-- at the start -/
theorem qL_start {y : qa_L} (h4 : 4 ≤ qa_n y) (h7 : qa_n y ≤ 7) : qL_I y 0 (qc_v (qa_n y)) := by
  generalize hn : qa_n y = n at h4 h7
  have z0 : ∀ k i f, ¬ (k = 2 ∧ f = 11) → k ≠ 28 → qc_v n k i f = 0 := fun k i f h1 h2 => if_neg (fun q => q.elim (fun q => h1 q) (fun q => h2 q.1))
  have z2 : ∀ i, qc_v n 2 i 11 = ((1 : Int32) <<< (nI n &&& 31)) - 1 := fun i => if_pos (Or.inl ⟨rfl, rfl⟩)
  have z28 : ∀ i f, f < n → qc_v n 28 i f = ((1 : Int32) <<< (nI n &&& 31)) - 1 := fun i f h => if_pos (Or.inr ⟨rfl, h⟩)
  refine ⟨⟨fun k f a b c hm => ?_, fun j hj => z0 _ _ _ (by omega) (by decide)⟩, fun i hi => ?_, fun t ht => ⟨0, by omega, z0 _ _ _ (by omega) (by decide), fun z hz => absurd hz (Nat.not_lt_zero _)⟩, ?_, z0 _ _ _ (by omega) (by decide), fun i hi => ?_⟩
  · rw [hn] at hm
    by_cases e : k = 28
    · have hm2 : f < n ∧ a = 2 ∧ c = 11 := by
        unfold qm_mu at hm
        omega
      rw [e, z28 _ _ hm2.1, hm2.2.1, hm2.2.2, z2]
    · have hm2 : ¬ (a = 2 ∧ c = 11) ∧ a ≠ 28 ∧ ¬ (k = 2 ∧ f = 11) := by
        unfold qm_mu at hm
        omega
      rw [z0 _ _ _ hm2.2.2 e, z0 _ _ _ hm2.1 hm2.2.1]
  · rw [hn] at hi ⊢
    rw [z2]
    have hn4 : n = 4 ∨ n = 5 ∨ n = 6 ∨ n = 7 := by omega
    have key : ∀ i, i < n → qm_in (((1 : Int32) <<< (nI n &&& 31)) - 1) (nI i) = true := by
      rcases hn4 with rfl | rfl | rfl | rfl <;> decide +kernel
    refine ⟨?_, key i hi⟩
    rcases hn4 with rfl | rfl | rfl | rfl
    · exact ⟨15, by decide, by decide +kernel⟩
    · exact ⟨31, by decide, by decide +kernel⟩
    · exact ⟨63, by decide, by decide +kernel⟩
    · exact ⟨127, by decide, by decide +kernel⟩
  · funext f
    exact z0 _ _ _ (by omega) (by decide)
  · rw [z0 _ _ _ (by omega) (by decide), z0 _ _ _ (by omega) (by decide)]
    exact ⟨⟨by decide, by decide⟩, by decide, by decide⟩
/-- all is made -/
theorem qc_done {y : qa_L} {v : qa_M} {H : Heap} (hY : qc_Y y) (hAs : qa_As y = (List.range (47 + 6 * qa_n y + qa_m y)).map (fun q => qa_a y 0 0 + q)) (h : qc_P y v (3 + 6 * qa_n y + qa_m y + 44) [] H) : qa_P y v H := by
  have key : ∀ (k : Nat) (q : Nat × va_E), (va_pl (qa_As y) (fun a => qc_G y v (a - qa_a y 0 0)))[k]? = some q → k < 47 + 6 * qa_n y + qa_m y ∧ q = (qa_a y 0 0 + k, qc_G y v k) := fun k q hq => by
    unfold va_pl at hq
    rw [hAs, List.map_map, List.getElem?_map] at hq
    by_cases hk : k < 47 + 6 * qa_n y + qa_m y
    · rw [List.getElem?_range hk] at hq
      refine ⟨hk, ?_⟩
      have e := (Option.some.inj hq).symm
      rw [e]
      show (qa_a y 0 0 + k, qc_G y v (qa_a y 0 0 + k - qa_a y 0 0)) = _
      rw [Nat.add_sub_cancel_left]
    · rw [List.getElem?_eq_none (by rw [List.length_range]; omega)] at hq
      cases hq
  refine ⟨fun a => qc_G y v (a - qa_a y 0 0), fun k q hq => ?_, ⟨fun i j p q hi hj he => ?_, fun k q hq => ?_⟩, fun k i hi => ?_⟩
  · obtain ⟨hk, rfl⟩ := key k q hq
    exact h.2.2 k (by omega)
  · obtain ⟨-, rfl⟩ := key i p hi
    obtain ⟨-, rfl⟩ := key j q hj
    exact Nat.add_left_cancel he
  · obtain ⟨hk, rfl⟩ := key k q hq
    show qa_a y 0 0 + k ∈ qa_As y
    rw [hAs]
    exact List.mem_map.mpr ⟨k, List.mem_range.mpr hk, rfl⟩
  · show qc_G y v (qa_a y k i - qa_a y 0 0) = qa_cell y v k i
    rw [hY k i, Nat.add_sub_cancel_left, qc_G_at hi rfl]
