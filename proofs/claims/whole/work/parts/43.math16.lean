/-! sets of nodes as small numbers -/
def qm_pc (n : Nat) (x : Int32) : Nat := ((List.range n).filter (fun j => qm_in x (nI j))).length
theorem qm_bc_4 : ∀ a, a < 16 → qm_bc (nI a) = nI (qm_pc 4 (nI a)) := by decide +kernel
theorem qm_bc_5 : ∀ a, a < 32 → qm_bc (nI a) = nI (qm_pc 5 (nI a)) := by decide +kernel
theorem qm_bc_6 : ∀ a, a < 64 → qm_bc (nI a) = nI (qm_pc 6 (nI a)) := by decide +kernel
theorem qm_bc_7 : ∀ a, a < 128 → qm_bc (nI a) = nI (qm_pc 7 (nI a)) := by decide +kernel
theorem qm_be_0 : ∀ a, a < 128 → (qm_bear 0 (nI a)).toInt = 0 := by decide +kernel
theorem qm_be_1 : ∀ a, a < 128 → 0 ≤ (qm_bear 1 (nI a)).toInt ∧ (qm_bear 1 (nI a)).toInt ≤ 1 := by decide +kernel
theorem qm_be_2 : ∀ a, a < 128 → 0 ≤ (qm_bear 2 (nI a)).toInt ∧ (qm_bear 2 (nI a)).toInt ≤ 2 := by decide +kernel
theorem qm_pc_le (n : Nat) (x : Int32) : qm_pc n x ≤ n := by
  unfold qm_pc
  have := List.length_filter_le (fun j => qm_in x (nI j)) (List.range n)
  simpa using this
theorem qm_bc_pc {n a : Nat} (h4 : 4 ≤ n) (h7 : n ≤ 7) (ha : a < 2 ^ n) : qm_bc (nI a) = nI (qm_pc n (nI a)) := by
  rcases qm_n47 h4 h7 with rfl | rfl | rfl | rfl
  · exact qm_bc_4 a ha
  · exact qm_bc_5 a ha
  · exact qm_bc_6 a ha
  · exact qm_bc_7 a ha
theorem qm_i_ix {x : Int32} {b : Nat} (h0 : 0 ≤ x.toInt) (h1 : x.toInt ≤ b) (hb : b < 1000) : x = nI (qm_ix x) ∧ qm_ix x ≤ b := by
  obtain ⟨j, hj, rfl⟩ := nI_of (x := x) (by rw [Int32.lt_iff_toInt_lt]; show ¬ _ < (0 : Int); omega)
  rw [nI_toInt hj] at h1
  rw [qm_ix_n hj]
  exact ⟨rfl, by omega⟩
/-- members: a set of nodes with the node itself -/
def qm_mok (y : qa_L) (v : qa_M) : Prop := ∀ i, i < qa_n y → (∃ a, a < 2 ^ qa_n y ∧ v 2 i 11 = nI a) ∧ qm_in (v 2 i 11) (nI i) = true
theorem qm_p128 {n a : Nat} (h7 : n ≤ 7) (ha : a < 2 ^ n) : a < 128 := Nat.lt_of_lt_of_le ha (Nat.pow_le_pow_right (by decide) h7)
theorem qm_bn_ok {y : qa_L} {v : qa_M} {i : Nat} (h7 : qa_n y ≤ 7) (hm : qa_m y ≤ 2) (h : ∃ a, a < 2 ^ qa_n y ∧ v 2 i 11 = nI a) : qm_bear (qa_m y) (v 2 i 11) = nI (qm_bn y v i) ∧ qm_bn y v i ≤ qa_m y := by
  obtain ⟨a, ha, e⟩ := h
  have ha := qm_p128 h7 ha
  unfold qm_bn
  rw [e]
  rcases (show qa_m y = 0 ∨ qa_m y = 1 ∨ qa_m y = 2 by omega) with q | q | q <;> rw [q]
  · exact qm_i_ix (by rw [qm_be_0 a ha]; decide) (by rw [qm_be_0 a ha]; decide) (by decide)
  · exact qm_i_ix (qm_be_1 a ha).1 (qm_be_1 a ha).2 (by decide)
  · exact qm_i_ix (qm_be_2 a ha).1 (qm_be_2 a ha).2 (by decide)
theorem qm_max_n {a b : Nat} (ha : a < 1000) (hb : b < 1000) : qm_max (nI a) (nI b) = nI (max a b) := by
  unfold qm_max
  by_cases h : a < b
  · rw [if_pos (nI_lt h (by omega)), Nat.max_eq_right (by omega)]
  · rw [if_neg (nI_nlt (by omega) (by omega)), Nat.max_eq_left (by omega)]
theorem qm_rds_ok {m : Nat} {f : Nat → Int32} {b : Nat → Nat} (hm : m ≤ 2) (k : Nat) (h : ∀ i, i < k → qm_bear m (f i) = nI (b i) ∧ b i ≤ m) : ∃ R, qm_rds m f k = nI R ∧ R ≤ m ∧ ∀ i, i < k → b i ≤ R := by
  induction k with
  | zero => exact ⟨0, rfl, by omega, fun i hi => absurd hi (by omega)⟩
  | succ k ih =>
    obtain ⟨R, e, h1, h2⟩ := ih (fun i hi => h i (by omega))
    obtain ⟨e2, h3⟩ := h k (by omega)
    refine ⟨max R (b k), ?_, by omega, fun i hi => ?_⟩
    · rw [qm_rds, e, e2, qm_max_n (by omega) (by omega)]
    · by_cases q : i = k
      · rw [q]; omega
      · have := h2 i (by omega)
        omega
theorem qm_flt {p q : Nat → Bool} {i : Nat} (hpq : ∀ j, p j = true → q j = true) (hi : p i = false) (hq : q i = true) (k : Nat) : ((List.range k).filter p).length + (if i < k then 1 else 0) ≤ ((List.range k).filter q).length := by
  induction k with
  | zero => simp
  | succ k ih =>
    rw [List.range_succ, List.filter_append, List.filter_append, List.length_append, List.length_append]
    by_cases e : i = k
    · subst e
      simp [hi, hq] at ih ⊢
      exact ih
    · cases hp : p k with
      | true =>
        have := hpq k hp
        simp [hp, this]
        split at ih <;> split <;> omega
      | false =>
        cases hk : q k with
        | true => simp [hp, hk]; split at ih <;> split <;> omega
        | false => simp [hp, hk]; split at ih <;> split <;> omega
theorem qm_hr_mem {y : qa_L} {v : qa_M} {i j : Nat} (h : qm_hr y v j i = true) : qm_in (v 2 i 11) (nI j) = true := by
  unfold qm_hr at h
  rw [Bool.and_eq_true] at h
  exact h.1
theorem qm_sz_pc {y : qa_L} {v : qa_M} {i : Nat} (h4 : 4 ≤ qa_n y) (h7 : qa_n y ≤ 7) (h : ∃ a, a < 2 ^ qa_n y ∧ v 2 i 11 = nI a) : qm_bc (v 2 i 11) = nI (qm_pc (qa_n y) (v 2 i 11)) ∧ qm_sz v i = qm_pc (qa_n y) (v 2 i 11) := by
  obtain ⟨a, ha, e⟩ := h
  have e2 : qm_bc (v 2 i 11) = nI (qm_pc (qa_n y) (v 2 i 11)) := by rw [e]; exact qm_bc_pc h4 h7 ha
  refine ⟨e2, ?_⟩
  unfold qm_sz
  have := qm_pc_le (qa_n y) (v 2 i 11)
  rw [e2, qm_ix_n (by omega)]
/-- what part 2 needs, from what the sets are -/
theorem qm_vok_of {y : qa_L} {v : qa_M} (h4 : 4 ≤ qa_n y) (h7 : qa_n y ≤ 7) (hm : qm_mok y v) (hh : ∀ i, i < qa_n y → v 2 i 12 = qm_hm y v i (qa_n y)) : qm_vok y v := by
  refine ⟨hh, fun i hi => ?_, fun i hi rs => ?_⟩
  · obtain ⟨e1, e2⟩ := qm_sz_pc h4 h7 (hm i hi).1
    rw [e2]
    have := qm_pc_le (qa_n y) (v 2 i 11)
    exact ⟨e1, by omega⟩
  · obtain ⟨-, e2⟩ := qm_sz_pc h4 h7 (hm i hi).1
    rw [e2]
    have := qm_flt (p := qm_he y v i) (q := fun j => qm_in (v 2 i 11) (nI j)) (i := i) (fun j hj => by
      unfold qm_he at hj
      rw [Bool.and_eq_true] at hj
      exact qm_hr_mem hj.2) qm_he_i (hm i hi).2 (qa_n y)
    rw [if_pos hi] at this
    unfold qm_bl qm_ls qm_pc
    simp only [List.length_cons, List.length_map]
    exact this
/-- the agreeing looks at messages between different nodes alone -/
theorem qm_ag_n {n : Nat} {g g' : Nat → Int32 → Nat → Int32} {mem : Int32} {s : Nat} {x : Int32} {i L : Nat} (hs : s < n) (hi : i < n) (his : i ≠ s) (h : ∀ j i x, j < n → i < n → j ≠ i → g j x i = g' j x i) : qm_ag n g mem s x i L = qm_ag n g' mem s x i L := by
  have e0 : g s x i = g' s x i := h s i x hs hi (fun q => his q.symm)
  match L with
  | 0 => exact e0
  | 1 =>
    show qm_maj _ = qm_maj _
    congr 1
    rw [e0]
    refine qm_ls_ext (fun _ _ => rfl) (fun a ha q => ?_)
    simp only [Bool.and_eq_true, Bool.not_eq_true', decide_eq_false_iff_not] at q
    rw [h s a x hs ha (fun z => q.2.2 z.symm), h a i _ ha hi q.2.1]
  | (L + 2) =>
    show qm_maj _ = qm_maj _
    congr 1
    rw [e0]
    refine qm_ls_ext (fun _ _ => rfl) (fun a ha q => ?_)
    simp only [Bool.and_eq_true, Bool.not_eq_true', decide_eq_false_iff_not] at q
    show qm_maj _ = qm_maj _
    congr 1
    rw [h s a x hs ha (fun z => q.2.2 z.symm), h a i _ ha hi q.2.1]
    refine qm_ls_ext (fun _ _ => rfl) (fun b hb q2 => ?_)
    simp only [Bool.and_eq_true, Bool.not_eq_true', decide_eq_false_iff_not] at q2
    rw [h a b _ ha hb (fun z => q2.2.2.2 z.symm), h b i _ hb hi q2.2.1]
/-- the class's agreeing is the document's, where its sets are what they should be -/
theorem qm_ac_AG {y : qa_L} {v : qa_M} {i s : Nat} {x : Int32} (h7 : qa_n y ≤ 7) (hs : s < qa_n y) (hi : i < qa_n y) (hh : ∀ i, i < qa_n y → v 2 i 12 = qm_hm y v i (qa_n y)) (hf : v 8 0 6 = v 0 0 11) : qm_ac (qa_n y) v i s x (qm_bn y v i) = qm_AG y v i s x := by
  unfold qm_ac qm_AG
  by_cases c1 : i = s
  · rw [if_pos c1, if_pos c1]
  · rw [if_neg c1, if_neg c1]
    by_cases c2 : qm_in (v 2 i 11) (nI s) = true
    · rw [if_pos c2, if_pos c2]
      refine qm_ag_n hs hi c1 (fun j i x hj hi hji => ?_)
      unfold qm_gt qm_g
      rw [qm_he_in h7 (hh i hi) hj, hf]
      unfold qm_he
      rw [decide_eq_false hji]
      rfl
    · rw [if_neg c2, if_neg c2]
def qm_P3 (y : qa_L) (v : qa_M) : qa_M := fun k i f => if k = 6 ∧ i < qa_n y ∧ f < qa_n y then qm_AG y v i f (v 2 f 13) &&& qm_all (qa_n y) else v k i f
/-- a frame up to the strikes -/
def qm_F3 (y : qa_L) (v : qa_M) : qa_M := qm_P3 y (qm_P2 y (qm_P1 y (qm_P0 y v)) 4)
/-- a frame -/
def qm_FR (y : qa_L) (v : qa_M) : qa_M := qa_up (qm_P5 y (qm_P4 y (qm_F3 y v))) 0 0 11 (v 0 0 11 + 1)
def qm_FS (y : qa_L) (v : qa_M) : Int32 := qm_sk y (qm_F3 y v) (qa_n y)
