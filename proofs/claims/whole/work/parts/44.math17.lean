/-! what the parts of a frame look at -/
theorem qm_eq_k {u w : qa_M} (h : qm_eq u w) : u 0 = w 0 ∧ u 2 = w 2 ∧ u 3 = w 3 ∧ u 4 = w 4 ∧ u 5 = w 5 ∧ u 6 = w 6 ∧ u 7 = w 7 ∧ u 13 = w 13 ∧ u 14 = w 14 ∧ u 15 = w 15 ∧ u 18 = w 18 := by
  refine ⟨?_, ?_, ?_, ?_, ?_, ?_, ?_, ?_, ?_, ?_, ?_⟩ <;> exact h _ (by decide) (by decide) (by decide) (by decide) (by decide) (by decide) (by decide)
theorem qm_eq_r (u : qa_M) : qm_eq u u := fun _ _ _ _ _ _ _ _ => rfl
theorem qm_eq_t {u v w : qa_M} (h : qm_eq u v) (h2 : qm_eq v w) : qm_eq u w := fun a a1 a2 a3 a4 a5 a6 a7 => (h a a1 a2 a3 a4 a5 a6 a7).trans (h2 a a1 a2 a3 a4 a5 a6 a7)
theorem qm_AG_n {y : qa_L} {u w : qa_M} {i s : Nat} {x : Int32} (e0 : u 0 = w 0) (e2 : u 2 = w 2) (e3 : u 3 = w 3) : qm_AG y u i s x = qm_AG y w i s x := by
  have eg : qm_g y u = qm_g y w := by
    funext j x i
    unfold qm_g qm_hr
    rw [e0, e2, e3]
  unfold qm_AG qm_bn
  rw [eg, e2]
theorem qm_P0_n {y : qa_L} {u w : qa_M} (h : qm_eq u w) : qm_eq (qm_P0 y u) (qm_P0 y w) := by
  obtain ⟨e0, e2, e3, -⟩ := qm_eq_k h
  intro a a1 a2 a3 a4 a5 a6 a7
  funext b f
  unfold qm_P0
  rw [qm_hm_m (by rw [e2]) (fun j => by rw [e2]) (fun j => by rw [e2]) (fun j => by rw [e3]), h a a1 a2 a3 a4 a5 a6 a7]
theorem qm_P1_n {y : qa_L} {u w : qa_M} (h : qm_eq u w) : qm_eq (qm_P1 y u) (qm_P1 y w) := by
  obtain ⟨e0, e2, e3, -⟩ := qm_eq_k h
  intro a a1 a2 a3 a4 a5 a6 a7
  funext b f
  unfold qm_P1
  rw [qm_AG_n e0 e2 e3, h a a1 a2 a3 a4 a5 a6 a7, e2]
theorem qm_P3_n {y : qa_L} {u w : qa_M} (h : qm_eq u w) : qm_eq (qm_P3 y u) (qm_P3 y w) := by
  obtain ⟨e0, e2, e3, -⟩ := qm_eq_k h
  intro a a1 a2 a3 a4 a5 a6 a7
  funext b f
  unfold qm_P3
  rw [qm_AG_n e0 e2 e3, h a a1 a2 a3 a4 a5 a6 a7, e2]
theorem qm_P4_n {y : qa_L} {u w : qa_M} (h : qm_eq u w) : qm_eq (qm_P4 y u) (qm_P4 y w) := by
  obtain ⟨e0, e2, e3, e4, e5, e6, -⟩ := qm_eq_k h
  intro a a1 a2 a3 a4 a5 a6 a7
  funext b f
  unfold qm_P4
  rw [qm_cv_n (by rw [e2]) (fun k => by rw [e6]), h a a1 a2 a3 a4 a5 a6 a7, e2]
theorem qm_sk_n {y : qa_L} {u w : qa_M} (h : qm_eq u w) (k : Nat) : qm_sk y u k = qm_sk y w k := by
  obtain ⟨e0, e2, e3, e4, e5, e6, -⟩ := qm_eq_k h
  induction k with
  | zero => rfl
  | succ k ih => rw [qm_sk, qm_sk, ih, qm_cv_n (by rw [e2]) (fun k => by rw [e6])]
theorem qm_P5_n {y : qa_L} {u w : qa_M} (h : qm_eq u w) : qm_eq (qm_P5 y u) (qm_P5 y w) := by
  obtain ⟨e0, e2, e3, e4, -⟩ := qm_eq_k h
  intro a a1 a2 a3 a4 a5 a6 a7
  funext b f
  unfold qm_P5
  rw [qm_co_n (fun j f _ => by rw [e2]) (fun k => by rw [e4]), h a a1 a2 a3 a4 a5 a6 a7, e2]
theorem qm_Pt_n {y : qa_L} {t : Nat} {u w : qa_M} (h : qm_eq u w) : qm_eq (qm_Pt y t u) (qm_Pt y t w) := by
  obtain ⟨e0, e2, e3, e4, e5, e6, e7, e13, e14, e15, e18⟩ := qm_eq_k h
  intro a a1 a2 a3 a4 a5 a6 a7
  have er : ∀ j, j < qa_n y → qm_rs u t j = qm_rs w t j := by
    intro j _
    unfold qm_rs
    rw [e14, e15, e5, e7, e13]
  have ed : qm_due u t (u 0 0 11) = qm_due w t (w 0 0 11) := by unfold qm_due; rw [e13, e0]
  have eg : qm_gi (qa_n y) u = qm_gi (qa_n y) w := by unfold qm_gi; rw [e2, e5]
  unfold qm_Pt
  rw [ed]
  by_cases c0 : qm_due w t (w 0 0 11) = true
  · rw [if_pos c0, if_pos c0]
    funext b f
    show (if _ then _ else _) = (if _ then _ else _)
    rw [e14, e15, eg, e18, e13]
    by_cases c : a = 18 ∧ b = 0 ∧ f = t
    · rw [if_pos c, if_pos c]
    · rw [if_neg c, if_neg c]
      unfold qm_Pv
      by_cases c1 : a = 7 ∧ b < qa_n y ∧ f = t
      · rw [if_pos c1, if_pos c1, qm_wn_m c1.2.1 (by rw [e2]) (fun j => by rw [e2]) (fun j => by rw [e2]) (fun j => by rw [e2]) (fun j => by rw [e3]) (by rw [e0]) er]
      · rw [if_neg c1, if_neg c1]
        by_cases c2 : a = 2 ∧ b < qa_n y ∧ f = 13
        · rw [if_pos c2, if_pos c2, qm_va_m c2.2.1 (by rw [e2]) (fun j => by rw [e2]) (fun j => by rw [e2]) (fun j => by rw [e2]) (fun j => by rw [e3]) (by rw [e0]) er (by rw [e2])]
        · rw [if_neg c2, if_neg c2, h a a1 a2 a3 a4 a5 a6 a7]
  · rw [if_neg c0, if_neg c0]
    exact h a a1 a2 a3 a4 a5 a6 a7
theorem qm_P2_n {y : qa_L} {u w : qa_M} (h : qm_eq u w) (t : Nat) : qm_eq (qm_P2 y u t) (qm_P2 y w t) := by
  induction t with
  | zero => exact h
  | succ t ih => exact qm_Pt_n ih
theorem qm_F3_n {y : qa_L} {u w : qa_M} (h : qm_eq u w) : qm_eq (qm_F3 y u) (qm_F3 y w) := qm_P3_n (qm_P2_n (qm_P1_n (qm_P0_n h)) 4)
theorem qm_up_n {u w : qa_M} {k i f : Nat} {x : Int32} (h : qm_eq u w) : qm_eq (qa_up u k i f x) (qa_up w k i f x) := by
  intro a a1 a2 a3 a4 a5 a6 a7
  funext b g
  simp only [qa_up]
  rw [h a a1 a2 a3 a4 a5 a6 a7]
theorem qm_FR_n {y : qa_L} {u w : qa_M} (h : qm_eq u w) : qm_eq (qm_FR y u) (qm_FR y w) := by
  unfold qm_FR
  rw [(qm_eq_k h).1]
  exact qm_up_n (qm_P5_n (qm_P4_n (qm_F3_n h)))
theorem qm_FS_n {y : qa_L} {u w : qa_M} (h : qm_eq u w) : qm_FS y u = qm_FS y w := qm_sk_n (qm_F3_n h) _
theorem qm_mok_n {y : qa_L} {u v : qa_M} (h : ∀ i, u 2 i 11 = v 2 i 11) (hm : qm_mok y v) : qm_mok y u := fun i hi => by rw [h i]; exact hm i hi
theorem qm_pok_n {n : Nat} {u v : qa_M} (h13 : u 13 = v 13) (h14 : u 14 = v 14) (h15 : u 15 = v 15) (hp : qm_pok n v) : qm_pok n u := by
  intro t ht
  obtain ⟨L, h1, h2, h3⟩ := hp t ht
  exact ⟨L, h1, by rw [h13]; exact h2, fun z hz => by rw [h14, h15]; exact h3 z hz⟩
theorem qm_P5_k {y : qa_L} {v : qa_M} {a b f : Nat} (h : a ≠ 2) : qm_P5 y v a b f = v a b f := by
  unfold qm_P5
  rw [if_neg (fun z => h z.1), if_neg (fun z => h z.1)]
theorem qm_P4_k {y : qa_L} {v : qa_M} {a b f : Nat} (h : a ≠ 2) : qm_P4 y v a b f = v a b f := by
  unfold qm_P4
  rw [if_neg (fun z => h z.1)]
theorem qm_P3_k {y : qa_L} {v : qa_M} {a b f : Nat} (h : a ≠ 6) : qm_P3 y v a b f = v a b f := by
  unfold qm_P3
  rw [if_neg (fun z => h z.1)]
theorem qm_P1_k {y : qa_L} {v : qa_M} {a b f : Nat} (h : a ≠ 2) (h5 : a ≠ 5) : qm_P1 y v a b f = v a b f := by
  unfold qm_P1
  rw [if_neg (fun z => h5 z.1), if_neg (fun z => h z.1)]
theorem qm_P0_k {y : qa_L} {v : qa_M} {a b f : Nat} (h : a ≠ 2) : qm_P0 y v a b f = v a b f := by
  unfold qm_P0
  rw [if_neg (fun z => h z.1)]
/-- a frame leaves the kinds alone that it doesn't name -/
theorem qm_F3_k {y : qa_L} {v : qa_M} {a b f : Nat} (h2 : a ≠ 2) (h5 : a ≠ 5) (h6 : a ≠ 6) (h7 : a ≠ 7) (h18 : a ≠ 18) : qm_F3 y v a b f = v a b f := by
  unfold qm_F3
  rw [qm_P3_k h6, qm_P2_k 4 h7 h18 (fun z => h2 z.1), qm_P1_k h2 h5, qm_P0_k h2]
theorem qm_FR_k {y : qa_L} {v : qa_M} {a b f : Nat} (h0 : a ≠ 0) (h2 : a ≠ 2) (h5 : a ≠ 5) (h6 : a ≠ 6) (h7 : a ≠ 7) (h18 : a ≠ 18) : qm_FR y v a b f = v a b f := by
  unfold qm_FR
  rw [qa_up_k h0, qm_P5_k h2, qm_P4_k h2, qm_F3_k h2 h5 h6 h7 h18]
