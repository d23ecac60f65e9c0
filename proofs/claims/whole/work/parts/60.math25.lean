/-! the reference's tasks -/
theorem qm_bl_sz {y : qa_L} {v : qa_M} {rs : Nat → Int32} {i : Nat} (h4 : 4 ≤ qa_n y) (h7 : qa_n y ≤ 7) (hm : qm_mok y v) (hi : i < qa_n y) : (qm_bl y v rs i (qa_n y)).length ≤ qm_sz v i := by
  obtain ⟨-, e2⟩ := qm_sz_pc h4 h7 (hm i hi).1
  rw [e2]
  have := qm_flt (p := qm_he y v i) (q := fun j => qm_in (v 2 i 11) (nI j)) (i := i) (fun j hj => by
    unfold qm_he at hj
    rw [Bool.and_eq_true] at hj
    exact qm_hr_mem hj.2) qm_he_i (hm i hi).2 (qa_n y)
  rw [if_pos hi] at this
  unfold qm_bl qm_ls qm_pc
  simp only [List.length_cons, List.length_map]
  exact this
theorem qm_pl_ok {n : Nat} {w v : qa_M} {t L : Nat} (hR : qm_RM n w v) (ht : t < 4) (hL : L ≤ 12) (hok : ∀ z, z < L → qm_iok n (w 14 t z) (w 15 t z)) : ∀ z, z < L → qm_iok n (v 37 0 (12 * t + z)) (v 38 0 (12 * t + z)) := fun z hz => by
  rw [qr_ops hR ht (by omega), qr_arg hR ht (by omega)]
  exact hok z hz
theorem qm_pl_ex {n : Nat} {w v : qa_M} {t L IB WB : Nat} {inp wds : Nat → Int32} (h7 : n ≤ 7) (hR : qm_RM n w v) (ht : t < 4) (hL : L ≤ 12) (hok : ∀ z, z < L → qm_iok n (w 14 t z) (w 15 t z)) (h3 : ∀ j, j < n → v 33 0 (IB + j) = inp j) (h4 : ∀ j, j < 4 → v 32 0 (WB + j) = wds j) : qm_ex (fun z => v 37 0 (12 * t + z)) (fun z => v 38 0 (12 * t + z)) (fun z => v 33 0 (IB + z)) (fun z => v 32 0 (WB + z)) L 0 0 [] = qm_ex (w 14 t) (w 15 t) inp wds L 0 0 [] :=
  qm_ex_n h7 (fun z hz => qr_ops hR ht (by omega)) (fun z hz => qr_arg hR ht (by omega)) h3 h4 (qm_pl_ok hR ht hL hok) L 0 0 [] (by omega)
/-- the votes of the first k nodes -/
def qm_Pk (y : qa_L) (t : Nat) (v : qa_M) (k : Nat) : qa_M := fun a i f =>
  if a = 7 ∧ i < k ∧ f = t then (qm_wn y v (qm_rs v t) i).getD 0
  else if a = 2 ∧ i < k ∧ f = 13 then qm_va y v (qm_rs v t) i (v 2 i 13)
  else v a i f
theorem qm_Pk_0 {y : qa_L} {t : Nat} {v : qa_M} : qm_Pk y t v 0 = v := by
  funext a i f
  unfold qm_Pk
  rw [if_neg (by omega), if_neg (by omega)]
theorem qm_Pk_n {y : qa_L} {t : Nat} {v : qa_M} : qm_Pk y t v (qa_n y) = qm_Pv y t v := rfl
theorem qm_Pk_k {y : qa_L} {t : Nat} {v : qa_M} {k a b f : Nat} (h7 : a ≠ 7) (h2 : ¬ (a = 2 ∧ f = 13)) : qm_Pk y t v k a b f = v a b f := by
  unfold qm_Pk
  rw [if_neg (fun z => h7 z.1), if_neg (fun z => h2 ⟨z.1, z.2.2⟩)]
theorem qm_Pk_s {y : qa_L} {t : Nat} {v : qa_M} {k : Nat} {rs : Nat → Int32} {x : Int32} (hk : k < qa_n y) (hr : ∀ j, j < qa_n y → rs j = qm_rs v t j) (hx : x = v 2 k 13) : qa_up (qa_up (qm_Pk y t v k) 7 k t ((qm_wn y (qm_Pk y t v k) rs k).getD 0)) 2 k 13 (qm_va y (qm_Pk y t v k) rs k x) = qm_Pk y t v (k + 1) := by
  have e2 : ∀ b f, f ≠ 13 → qm_Pk y t v k 2 b f = v 2 b f := fun b f h => qm_Pk_k (by decide) (fun z => h z.2)
  have ew : qm_wn y (qm_Pk y t v k) rs k = qm_wn y v (qm_rs v t) k := qm_wn_m hk (e2 _ _ (by decide)) (fun j => e2 _ _ (by decide)) (fun j => e2 _ _ (by decide)) (fun j => e2 _ _ (by decide)) (fun j => qm_Pk_k (by decide) (by omega)) (qm_Pk_k (by decide) (by omega)) hr
  have ea : qm_va y (qm_Pk y t v k) rs k x = qm_va y v (qm_rs v t) k (v 2 k 13) := qm_va_m hk (e2 _ _ (by decide)) (fun j => e2 _ _ (by decide)) (fun j => e2 _ _ (by decide)) (fun j => e2 _ _ (by decide)) (fun j => qm_Pk_k (by decide) (by omega)) (qm_Pk_k (by decide) (by omega)) hr hx
  rw [ew, ea]
  funext a b f
  by_cases c1 : a = 2 ∧ b = k ∧ f = 13
  · obtain ⟨rfl, rfl, rfl⟩ := c1
    rw [qa_up_s]
    unfold qm_Pk
    rw [if_neg (by omega), if_pos (by omega)]
  · rw [qa_up_x c1]
    by_cases c2 : a = 7 ∧ b = k ∧ f = t
    · obtain ⟨rfl, rfl, rfl⟩ := c2
      rw [qa_up_s]
      unfold qm_Pk
      rw [if_pos (by omega)]
    · rw [qa_up_x c2]
      unfold qm_Pk
      have q1 : (a = 7 ∧ b < k + 1 ∧ f = t) ↔ (a = 7 ∧ b < k ∧ f = t) := by omega
      have q2 : (a = 2 ∧ b < k + 1 ∧ f = 13) ↔ (a = 2 ∧ b < k ∧ f = 13) := by omega
      simp only [q1, q2]
theorem qm_Pt_due {y : qa_L} {t : Nat} {v : qa_M} {x : Int32} (h : qm_due v t (v 0 0 11) = true) (hx : x = qm_ex (v 14 t) (v 15 t) (qm_gi (qa_n y) v) (v 18 0) (qm_ix (v 13 t 2)) 0 0 []) : qa_up (qm_Pk y t v (qa_n y)) 18 0 t x = qm_Pt y t v := by
  unfold qm_Pt
  rw [if_pos h, hx]
  rfl
theorem qm_Pt_not {y : qa_L} {t : Nat} {v : qa_M} (h : qm_due v t (v 0 0 11) = false) : qm_Pt y t v = v := by
  unfold qm_Pt
  rw [if_neg (by rw [h]; decide)]
theorem qm_gi_P2 {y : qa_L} {n : Nat} {v : qa_M} (t : Nat) : qm_gi n (qm_P2 y v t) = qm_gi n v := by
  unfold qm_gi
  have e : (fun i => decide (qm_P2 y v t 2 i 9 = 0)) = (fun i => decide (v 2 i 9 = 0)) := by
    funext i
    rw [qm_P2_k t (by decide) (by decide) (by omega)]
  rw [e, qm_P2_kk t (by decide) (by decide) (by decide)]
