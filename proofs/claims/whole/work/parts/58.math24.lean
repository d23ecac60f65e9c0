/-! votes, as the reference takes them: in the order of the nodes -/
def qm_lo (y : qa_L) (w : qa_M) (rs : Nat → Int32) (i k : Nat) : List Int32 := ((List.range k).filter (fun j => decide (j = i) || qm_hr y w j i)).map (fun j => if j = i then rs i else qm_sr w rs i j)
theorem qm_lo_i {y : qa_L} {w : qa_M} {rs : Nat → Int32} {i k : Nat} (h : k = i) : qm_lo y w rs i (k + 1) = qm_lo y w rs i k ++ [rs i] := by
  unfold qm_lo
  rw [List.range_succ, List.filter_append]
  simp [h]
theorem qm_lo_t {y : qa_L} {w : qa_M} {rs : Nat → Int32} {i k : Nat} (h : ¬ k = i) (h2 : qm_hr y w k i = true) : qm_lo y w rs i (k + 1) = qm_lo y w rs i k ++ [qm_sr w rs i k] := by
  unfold qm_lo
  rw [List.range_succ, List.filter_append]
  simp [h, h2]
theorem qm_lo_f {y : qa_L} {w : qa_M} {rs : Nat → Int32} {i k : Nat} (h : ¬ k = i) (h2 : qm_hr y w k i = false) : qm_lo y w rs i (k + 1) = qm_lo y w rs i k := by
  unfold qm_lo
  rw [List.range_succ, List.filter_append]
  simp [h, h2]
theorem qm_lo_le (y : qa_L) (w : qa_M) (rs : Nat → Int32) (i k : Nat) : (qm_lo y w rs i k).length ≤ k := by
  unfold qm_lo
  rw [List.length_map]
  have := List.length_filter_le (fun j => decide (j = i) || qm_hr y w j i) (List.range k)
  simpa using this
theorem qm_lo_ct (y : qa_L) (w : qa_M) (rs : Nat → Int32) (i k : Nat) (x : Int32) : (qm_bl y w rs i k).count x = (qm_lo y w rs i k).count x + (if k ≤ i then (if rs i = x then 1 else 0) else 0) ∧ (qm_bl y w rs i k).length = (qm_lo y w rs i k).length + (if k ≤ i then 1 else 0) := by
  induction k with
  | zero =>
    refine ⟨?_, rfl⟩
    show [rs i].count x = [].count x + _
    rw [if_pos (Nat.zero_le _), List.count_cons, List.count_nil]
    simp
  | succ k ih =>
    obtain ⟨h1, h2⟩ := ih
    by_cases c : k = i
    · have e : qm_bl y w rs i (k + 1) = qm_bl y w rs i k := qm_ls_f (by rw [c]; exact qm_he_i)
      have g1 : k ≤ i := by omega
      have g2 : ¬ k + 1 ≤ i := by omega
      rw [if_pos g1] at h1 h2
      rw [e, qm_lo_i c, h1, h2, List.count_append, List.length_append, if_neg g2, if_neg g2, List.count_cons, List.count_nil]
      simp
    · have hh : qm_he y w i k = qm_hr y w k i := by unfold qm_he; rw [decide_eq_false c]; rfl
      have ek : (k ≤ i) = (k + 1 ≤ i) := propext ⟨fun z => by omega, fun z => by omega⟩
      simp only [ek] at h1 h2
      cases q : qm_hr y w k i with
      | true =>
        have e : qm_bl y w rs i (k + 1) = qm_bl y w rs i k ++ [qm_sr w rs i k] := qm_ls_t (by rw [hh]; exact q)
        rw [e, qm_lo_t c q, List.count_append, List.count_append, List.length_append, List.length_append, h1, h2]
        constructor <;> omega
      | false =>
        have e : qm_bl y w rs i (k + 1) = qm_bl y w rs i k := qm_ls_f (by rw [hh]; exact q)
        rw [e, qm_lo_f c q]
        exact ⟨h1, h2⟩
theorem qm_lo_n {y : qa_L} {w : qa_M} {rs : Nat → Int32} {i : Nat} (hi : i < qa_n y) (x : Int32) : (qm_bl y w rs i (qa_n y)).count x = (qm_lo y w rs i (qa_n y)).count x := by
  have := (qm_lo_ct y w rs i (qa_n y) x).1
  rw [if_neg (by omega)] at this
  exact this
theorem qm_wn_no {y : qa_L} {w : qa_M} {rs : Nat → Int32} {i : Nat} (hi : i < qa_n y) (h : ∀ x, x ∈ qm_lo y w rs i (qa_n y) → 2 * (qm_lo y w rs i (qa_n y)).count x ≤ qm_sz w i) : qm_wn y w rs i = none := by
  unfold qm_wn
  refine qm_win_no (fun x hx => ?_)
  have h1 := List.count_pos_iff.mpr hx
  rw [qm_lo_n hi] at h1 ⊢
  exact h x (List.count_pos_iff.mp h1)
theorem qm_wn_in {y : qa_L} {w : qa_M} {rs : Nat → Int32} {i : Nat} {x : Int32} (hi : i < qa_n y) (hS : (qm_bl y w rs i (qa_n y)).length ≤ qm_sz w i) (h : qm_sz w i < 2 * (qm_lo y w rs i (qa_n y)).count x) : qm_wn y w rs i = some x := by
  unfold qm_wn
  exact qm_win_in hS (by rw [qm_lo_n hi]; exact h)
/-- the accused, as the reference adds them -/
def qm_bo (y : qa_L) (w : qa_M) (rs : Nat → Int32) (i : Nat) (x acc : Int32) : Nat → Int32
  | 0 => acc
  | j + 1 => if j ≠ i ∧ qm_in (w 2 i 11) (nI j) = true ∧ ¬ (qm_hr y w j i = true ∧ qm_sr w rs i j = x) then qm_ad (qm_bo y w rs i x acc j) j else qm_bo y w rs i x acc j
theorem qm_ad_bt (P : Int32) {a q : Nat} (ha : a < 32) (hq : q < 32) : bt (qm_ad P a) q = (bt P q || decide (q = a)) := by
  unfold qm_ad
  rw [b_or, b_shl a ha 1 hq, b_1 _ (by omega)]
  congr 1
  by_cases e : q = a
  · subst e
    simp
  · rw [decide_eq_false e]
    by_cases h : a ≤ q
    · rw [decide_eq_false (show ¬ q - a = 0 by omega), Bool.and_false]
    · rw [decide_eq_false h, Bool.false_and]
theorem qm_bo_bt {y : qa_L} {w : qa_M} {rs : Nat → Int32} {i : Nat} {x acc : Int32} {k q : Nat} (hk : k ≤ 31) (hq : q < 32) : bt (qm_bo y w rs i x acc k) q = (bt acc q || decide (q < k ∧ q ≠ i ∧ qm_in (w 2 i 11) (nI q) = true ∧ ¬ (qm_hr y w q i = true ∧ qm_sr w rs i q = x))) := by
  induction k with
  | zero => simp [qm_bo]
  | succ k ih =>
    have ih := ih (by omega)
    rw [qm_bo]
    split
    · rename_i c
      rw [qm_ad_bt _ (by omega) hq, ih, Bool.or_assoc]
      congr 1
      by_cases e : q = k
      · subst e
        rw [decide_eq_true (show q = q from rfl), Bool.or_true]
        exact (decide_eq_true ⟨by omega, c⟩).symm
      · rw [decide_eq_false e, Bool.or_false]
        apply decide_eq_decide.mpr
        constructor
        · rintro ⟨h1, h2⟩; exact ⟨by omega, h2⟩
        · rintro ⟨h1, h2⟩; exact ⟨by omega, h2⟩
    · rename_i c
      rw [ih]
      congr 1
      apply decide_eq_decide.mpr
      constructor
      · rintro ⟨h1, h2⟩; exact ⟨by omega, h2⟩
      · rintro ⟨h1, h2⟩
        refine ⟨?_, h2⟩
        rcases Nat.lt_or_ge q k with z | z
        · exact z
        · obtain rfl : q = k := by omega
          exact absurd h2 c
theorem qm_rm_bt (P : Int32) {a q : Nat} (ha : a < 32) (hq : q < 32) : bt (P &&& (((1 : Int32) <<< (nI a &&& 31)) ^^^ (-1))) q = (bt P q && !decide (q = a)) := by
  rw [b_and, b_xor, b_m1 q hq]
  have h := qm_ad_bt 0 ha hq
  unfold qm_ad at h
  rw [b_or, b_0, Bool.false_or, Bool.false_or] at h
  rw [h]
  cases decide (q = a) <;> rfl
theorem qm_ds_bt {y : qa_L} {w : qa_M} {rs : Nat → Int32} {i : Nat} {x : Int32} {k q : Nat} (hk : k ≤ 31) (hi : i < 31) (hq : q < 32) : bt (qm_ds y w rs i x k) q = decide (bt (w 2 i 11) q = true ∧ q ≠ i ∧ ¬ (q < k ∧ qm_he y w i q = true ∧ qm_sr w rs i q = x)) := by
  induction k with
  | zero =>
    rw [qm_ds, qm_rm_bt _ (by omega) hq]
    cases h : bt (w 2 i 11) q <;> by_cases e : q = i <;> simp [e]
  | succ k ih =>
    have ih := ih (by omega)
    rw [qm_ds]
    split
    · rename_i c
      rw [qm_rm_bt _ (by omega) hq, ih]
      by_cases e : q = k
      · subst e
        rw [decide_eq_true (show q = q from rfl), Bool.not_true, Bool.and_false]
        exact (decide_eq_false (fun z => z.2.2 ⟨by omega, c⟩)).symm
      · rw [decide_eq_false e, Bool.not_false, Bool.and_true]
        apply decide_eq_decide.mpr
        constructor
        · rintro ⟨h1, h2, h3⟩; exact ⟨h1, h2, fun z => h3 ⟨by omega, z.2⟩⟩
        · rintro ⟨h1, h2, h3⟩; exact ⟨h1, h2, fun z => h3 ⟨by omega, z.2⟩⟩
    · rename_i c
      rw [ih]
      apply decide_eq_decide.mpr
      constructor
      · rintro ⟨h1, h2, h3⟩
        refine ⟨h1, h2, fun z => ?_⟩
        rcases Nat.lt_or_ge q k with g | g
        · exact h3 ⟨g, z.2⟩
        · obtain rfl : q = k := by omega
          exact c z.2
      · rintro ⟨h1, h2, h3⟩; exact ⟨h1, h2, fun z => h3 ⟨by omega, z.2⟩⟩
theorem qm_bt_hi {a n q : Nat} (ha : a < 2 ^ n) (hq : n ≤ q) : bt (nI a) q = false := by
  show (BitVec.ofNat 32 a).getLsbD q = false
  rw [BitVec.getLsbD_ofNat, Nat.testBit_lt_two_pow (Nat.lt_of_lt_of_le ha (Nat.pow_le_pow_right (by decide) hq)), Bool.and_false]
theorem qm_bo_ds {y : qa_L} {w : qa_M} {rs : Nat → Int32} {i : Nat} {x acc : Int32} (h7 : qa_n y ≤ 7) (hi : i < qa_n y) (hm : ∃ a, a < 2 ^ qa_n y ∧ w 2 i 11 = nI a) : qm_bo y w rs i x acc (qa_n y) = acc ||| qm_ds y w rs i x (qa_n y) := by
  apply b_ext
  intro q hq
  rw [b_or, qm_bo_bt (by omega) hq, qm_ds_bt (by omega) (by omega) hq]
  congr 1
  apply decide_eq_decide.mpr
  by_cases c : q < qa_n y
  · rw [← qm_in_bt _ (by omega)]
    constructor
    · rintro ⟨-, h2, h3, h4⟩
      refine ⟨h3, h2, fun z => h4 ⟨?_, z.2.2⟩⟩
      have := z.2.1
      unfold qm_he at this
      rw [Bool.and_eq_true] at this
      exact this.2
    · rintro ⟨h1, h2, h3⟩
      refine ⟨c, h2, h1, fun z => h3 ⟨c, ?_, z.2⟩⟩
      unfold qm_he
      rw [z.1, decide_eq_false h2]
      rfl
  · obtain ⟨a, ha, e⟩ := hm
    constructor
    · rintro ⟨z, -⟩; exact absurd z c
    · rintro ⟨z, -⟩
      rw [e, qm_bt_hi ha (by omega)] at z
      cases z
theorem qm_hr_u {y : qa_L} {w : qa_M} {i t : Nat} {a b : Int32} {j i' : Nat} : qm_hr y (qa_up (qa_up w 7 i t a) 2 i 13 b) j i' = qm_hr y w j i' := by
  have e : ∀ c f, f ≠ 13 → qa_up (qa_up w 7 i t a) 2 i 13 b 2 c f = w 2 c f := fun c f h => by rw [qa_up_x (by omega), qa_up_x (by omega)]
  refine qm_hr_m (e _ _ (by decide)) (e _ _ (by decide)) (fun c => e _ _ (by decide)) ?_
  rw [qa_up_x (by omega), qa_up_x (by omega)]
theorem qm_sy_u {w : qa_M} {i t : Nat} {a b : Int32} {j i' : Nat} {x : Int32} : qm_says (qa_up (qa_up w 7 i t a) 2 i 13 b 2 j 9) (qa_up (qa_up w 7 i t a) 2 i 13 b 2 j 10) x (nI i') (qa_up (qa_up w 7 i t a) 2 i 13 b 0 0 11) = qm_says (w 2 j 9) (w 2 j 10) x (nI i') (w 0 0 11) := by
  have e : ∀ c f, f ≠ 13 → qa_up (qa_up w 7 i t a) 2 i 13 b 2 c f = w 2 c f := fun c f h => by rw [qa_up_x (by omega), qa_up_x (by omega)]
  rw [e _ _ (by decide), e _ _ (by decide), qa_up_x (by omega), qa_up_x (by omega)]
theorem qm_mu_w {n i t : Nat} (hi : i < n) (ht : t < 4) : qm_mu n 32 (4 * i + t) 7 i t := Or.inr (Or.inr (Or.inl ⟨rfl, rfl, hi, ht, rfl⟩))
theorem qm_mu_s {n t : Nat} (ht : t < 4) : qm_mu n 32 (28 + t) 18 0 t := Or.inr (Or.inr (Or.inr (Or.inl ⟨rfl, rfl, rfl, ht, rfl⟩)))
theorem qm_mu_i {n i j : Nat} (hi : i < n) (hj : j < n) : qm_mu n 33 (7 * i + j) 5 i j := Or.inr (Or.inr (Or.inr (Or.inr (Or.inl ⟨rfl, rfl, hi, hj, rfl⟩))))
theorem qm_mu_c {n i j : Nat} (hi : i < n) (hj : j < n) : qm_mu n 34 (7 * i + j) 6 i j := Or.inr (Or.inr (Or.inr (Or.inr (Or.inr (Or.inl ⟨rfl, rfl, hi, hj, rfl⟩)))))
theorem qm_mu_d {n i j : Nat} (hi : i < n) (hj : j < n) : qm_mu n 35 (7 * j + i) 3 i j := Or.inr (Or.inr (Or.inr (Or.inr (Or.inr (Or.inr (Or.inl ⟨rfl, rfl, hi, hj, rfl⟩))))))
theorem qm_mu_e {n i j : Nat} (hi : i < n) (hj : j < n) : qm_mu n 36 (7 * j + i) 4 i j := Or.inr (Or.inr (Or.inr (Or.inr (Or.inr (Or.inr (Or.inr (Or.inl ⟨rfl, rfl, hi, hj, rfl⟩)))))))
theorem qm_mu_o {n t p : Nat} (ht : t < 4) (hp : p < 12) : qm_mu n 37 (12 * t + p) 14 t p := Or.inr (Or.inr (Or.inr (Or.inr (Or.inr (Or.inr (Or.inr (Or.inr (Or.inl ⟨rfl, rfl, ht, hp, rfl⟩))))))))
theorem qm_mu_x {n t p : Nat} (ht : t < 4) (hp : p < 12) : qm_mu n 38 (12 * t + p) 15 t p := Or.inr (Or.inr (Or.inr (Or.inr (Or.inr (Or.inr (Or.inr (Or.inr (Or.inr (Or.inl ⟨rfl, rfl, ht, hp, rfl⟩)))))))))
theorem qm_mu_13 {n t k c : Nat} (ht : t < 4) (hk : (k = 39 ∧ c = 2) ∨ (k = 40 ∧ c = 3) ∨ (k = 41 ∧ c = 4)) : qm_mu n k t 13 t c := Or.inr (Or.inr (Or.inr (Or.inr (Or.inr (Or.inr (Or.inr (Or.inr (Or.inr (Or.inr ⟨ht, rfl, rfl, hk⟩)))))))))
theorem qm_mu_2 {n i k c : Nat} (hi : i < n) (hk : (k = 23 ∧ c = 6) ∨ (k = 24 ∧ c = 7) ∨ (k = 25 ∧ c = 8) ∨ (k = 26 ∧ c = 9) ∨ (k = 27 ∧ c = 10) ∨ (k = 28 ∧ c = 11) ∨ (k = 29 ∧ c = 13) ∨ (k = 30 ∧ c = 14)) : qm_mu n k i 2 i c := Or.inr (Or.inl ⟨hi, rfl, rfl, hk⟩)
theorem qm_mu_f0 {n : Nat} : qm_mu n 22 3 0 0 11 := Or.inl ⟨rfl, rfl, rfl, rfl, rfl⟩
