/-! a frame of the reference: states between -/
def qm_fil (w : qa_M) (A : Nat) (X : Nat → Nat → Int32) (i q n : Nat) : qa_M := fun a b f => if a = A ∧ (b < i ∨ (b = i ∧ f < q)) ∧ f < n then X b f else w a b f
def qm_col (w : qa_M) (F : Nat) (X : Nat → Int32) (k : Nat) : qa_M := fun a b f => if a = 2 ∧ b < k ∧ f = F then X b else w a b f
theorem qm_fil_s {w : qa_M} {A : Nat} {X : Nat → Nat → Int32} {i q n : Nat} {x : Int32} (hq : q < n) (hx : x = X i q) : qa_up (qm_fil w A X i q n) A i q x = qm_fil w A X i (q + 1) n := by
  funext a b f
  by_cases c : a = A ∧ b = i ∧ f = q
  · obtain ⟨rfl, rfl, rfl⟩ := c
    rw [qa_up_s, hx]
    unfold qm_fil
    rw [if_pos ⟨rfl, Or.inr ⟨rfl, by omega⟩, hq⟩]
  · rw [qa_up_x c]
    unfold qm_fil
    by_cases d : a = A ∧ (b < i ∨ (b = i ∧ f < q)) ∧ f < n
    · rw [if_pos d, if_pos (by omega)]
    · rw [if_neg d, if_neg (by omega)]
theorem qm_fil_r {w : qa_M} {A : Nat} {X : Nat → Nat → Int32} {i n : Nat} : qm_fil w A X i n n = qm_fil w A X (i + 1) 0 n := by
  funext a b f
  unfold qm_fil
  by_cases d : a = A ∧ (b < i ∨ (b = i ∧ f < n)) ∧ f < n
  · rw [if_pos d, if_pos (by omega)]
  · rw [if_neg d, if_neg (by omega)]
theorem qm_fil_0 {w : qa_M} {A : Nat} {X : Nat → Nat → Int32} {n : Nat} : qm_fil w A X 0 0 n = w := by
  funext a b f
  unfold qm_fil
  rw [if_neg (by omega)]
theorem qm_fil_k {w : qa_M} {A : Nat} {X : Nat → Nat → Int32} {i q n a b f : Nat} (h : a ≠ A) : qm_fil w A X i q n a b f = w a b f := by
  unfold qm_fil
  rw [if_neg (fun z => h z.1)]
theorem qm_col_s {w : qa_M} {F : Nat} {X : Nat → Int32} {k : Nat} {x : Int32} (hx : x = X k) : qa_up (qm_col w F X k) 2 k F x = qm_col w F X (k + 1) := by
  funext a b f
  by_cases c : a = 2 ∧ b = k ∧ f = F
  · obtain ⟨rfl, rfl, rfl⟩ := c
    rw [qa_up_s, hx]
    unfold qm_col
    rw [if_pos ⟨rfl, by omega, rfl⟩]
  · rw [qa_up_x c]
    unfold qm_col
    by_cases d : a = 2 ∧ b < k ∧ f = F
    · rw [if_pos d, if_pos (by omega)]
    · rw [if_neg d, if_neg (by omega)]
theorem qm_col_0 {w : qa_M} {F : Nat} {X : Nat → Int32} : qm_col w F X 0 = w := by
  funext a b f
  unfold qm_col
  rw [if_neg (by omega)]
theorem qm_col_k {w : qa_M} {F : Nat} {X : Nat → Int32} {k a b f : Nat} (h : ¬ (a = 2 ∧ f = F)) : qm_col w F X k a b f = w a b f := by
  unfold qm_col
  rw [if_neg (fun z => h ⟨z.1, z.2.2⟩)]
theorem qm_col_b {w : qa_M} {F : Nat} {X : Nat → Int32} {k a b f : Nat} (h : k ≤ b) : qm_col w F X k a b f = w a b f := by
  unfold qm_col
  rw [if_neg (by omega)]
theorem qm_fc {w : qa_M} {X : Nat → Nat → Int32} {k n : Nat} : qa_up (qm_fil (qm_col w 13 (fun _ => 0) k) 5 X k 0 n) 2 k 13 0 = qm_fil (qm_col w 13 (fun _ => 0) (k + 1)) 5 X k 0 n := by
  rw [← qm_col_s (w := w) (F := 13) (X := fun _ => 0) (k := k) (x := 0) rfl]
  funext a b f
  by_cases c : a = 2 ∧ b = k ∧ f = 13
  · obtain ⟨rfl, rfl, rfl⟩ := c
    rw [qa_up_s, qm_fil_k (by decide), qa_up_s]
  · rw [qa_up_x c]
    unfold qm_fil
    rw [qa_up_x c]
theorem qm_fil_P1 {y : qa_L} {w : qa_M} : qm_fil (qm_col w 13 (fun _ => 0) (qa_n y)) 5 (fun b f => qm_AG y w b f (w 2 f 8)) (qa_n y) 0 (qa_n y) = qm_P1 y w := by
  funext a b f
  unfold qm_fil qm_P1
  by_cases d : a = 5 ∧ b < qa_n y ∧ f < qa_n y
  · rw [if_pos d, if_pos (by omega)]
  · rw [if_neg d, if_neg (by omega)]
    rfl
theorem qm_fil_P3 {y : qa_L} {w : qa_M} : qm_fil w 6 (fun b f => qm_AG y w b f (w 2 f 13) &&& qm_all (qa_n y)) (qa_n y) 0 (qa_n y) = qm_P3 y w := by
  funext a b f
  unfold qm_fil qm_P3
  by_cases d : a = 6 ∧ b < qa_n y ∧ f < qa_n y
  · rw [if_pos d, if_pos (by omega)]
  · rw [if_neg d, if_neg (by omega)]
theorem qm_col_P4 {y : qa_L} {w : qa_M} : qm_col w 11 (fun i => w 2 i 11 &&& (qm_cv y w i (qa_n y) ^^^ (-1))) (qa_n y) = qm_P4 y w := rfl
theorem qm_col_P5 {y : qa_L} {w : qa_M} : qm_col (qm_col w 14 (qm_co y w) (qa_n y)) 6 (fun i => w 2 i 6 + (qm_co y w i + w 2 i 7)) (qa_n y) = qm_P5 y w := by
  funext a b f
  unfold qm_col qm_P5
  by_cases d : a = 2 ∧ b < qa_n y ∧ f = 6
  · rw [if_pos d, if_neg (by omega), if_pos d]
  · rw [if_neg d, if_neg d]
theorem qm_AG_m {y : qa_L} {u w : qa_M} {i s : Nat} {x : Int32} (h2 : ∀ b f, f ≠ 13 → u 2 b f = w 2 b f) (h3 : ∀ b f, u 3 b f = w 3 b f) (h0 : u 0 0 11 = w 0 0 11) : qm_AG y u i s x = qm_AG y w i s x := by
  have eg : qm_g y u = qm_g y w := by
    funext j x i
    unfold qm_g
    rw [qm_hr_m (h2 i 11 (by decide)) (h2 j 9 (by decide)) (fun a => h2 a 6 (by decide)) (h3 i j), h2 j 9 (by decide), h2 j 10 (by decide), h0]
  unfold qm_AG qm_bn
  rw [eg, h2 i 11 (by decide)]
theorem qm_mok_col {y : qa_L} {w : qa_M} {k : Nat} (h7 : qa_n y ≤ 7) (h : qm_mok y w) : qm_mok y (qm_col w 11 (fun i => w 2 i 11 &&& (qm_cv y w i (qa_n y) ^^^ (-1))) k) := by
  intro i hi
  obtain ⟨⟨a, ha, e⟩, h2⟩ := h i hi
  by_cases c : i < k
  · have e3 : qm_col w 11 (fun i => w 2 i 11 &&& (qm_cv y w i (qa_n y) ^^^ (-1))) k 2 i 11 = w 2 i 11 &&& (qm_cv y w i (qa_n y) ^^^ (-1)) := by
      unfold qm_col
      rw [if_pos ⟨rfl, c, rfl⟩]
    rw [e3]
    refine ⟨?_, ?_⟩
    · rw [e]
      exact qm_and_lt _ h7 ha
    · rw [qm_in_and _ _ (by omega), qm_in_not _ (by omega), h2, qm_cv_i (by omega) _ h7]
      rfl
  · rw [qm_col_b (by omega)]
    exact ⟨⟨a, ha, e⟩, h2⟩
theorem qm_RM_P0 {y : qa_L} {w v : qa_M} (h : qm_RM (qa_n y) w v) : qm_RM (qa_n y) (qm_P0 y w) v := qm_RM_s h (fun k f a b c hm => by
  unfold qm_P0
  rw [if_neg]
  unfold qm_mu at hm
  omega)
