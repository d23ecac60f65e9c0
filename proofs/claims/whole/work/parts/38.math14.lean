theorem qm_Pv_n {y : qa_L} {t : Nat} {u w : qa_M} {a : Nat} (h : ∀ a, a ≠ 16 → a ≠ 17 → a ≠ 20 → a ≠ 21 → u a = w a) (h1 : a ≠ 16) (h2 : a ≠ 17) (h3 : a ≠ 20) (h4 : a ≠ 21) : qm_Pv y t u a = qm_Pv y t w a := by
  have e2 := h 2 (by decide) (by decide) (by decide) (by decide)
  have e3 := h 3 (by decide) (by decide) (by decide) (by decide)
  have e0 := h 0 (by decide) (by decide) (by decide) (by decide)
  have er : ∀ j, j < qa_n y → qm_rs u t j = qm_rs w t j := by
    intro j _
    unfold qm_rs
    rw [h 14 (by decide) (by decide) (by decide) (by decide), h 15 (by decide) (by decide) (by decide) (by decide), h 5 (by decide) (by decide) (by decide) (by decide), h 7 (by decide) (by decide) (by decide) (by decide), h 13 (by decide) (by decide) (by decide) (by decide)]
  funext b f
  unfold qm_Pv
  by_cases c1 : a = 7 ∧ b < qa_n y ∧ f = t
  · rw [if_pos c1, if_pos c1, qm_wn_m c1.2.1 (by rw [e2]) (fun j => by rw [e2]) (fun j => by rw [e2]) (fun j => by rw [e2]) (fun j => by rw [e3]) (by rw [e0]) er]
  · rw [if_neg c1, if_neg c1]
    by_cases c2 : a = 2 ∧ b < qa_n y ∧ f = 13
    · rw [if_pos c2, if_pos c2, qm_va_m c2.2.1 (by rw [e2]) (fun j => by rw [e2]) (fun j => by rw [e2]) (fun j => by rw [e2]) (fun j => by rw [e3]) (by rw [e0]) er (by rw [e2])]
    · rw [if_neg c2, if_neg c2, h a h1 h2 h3 h4]
theorem qm_Pt_k {y : qa_L} {t : Nat} {v : qa_M} {a b f : Nat} (h7 : a ≠ 7) (h18 : a ≠ 18) (h2 : ¬ (a = 2 ∧ f = 13)) : qm_Pt y t v a b f = v a b f := by
  unfold qm_Pt
  split
  · show (if _ then _ else _) = _
    rw [if_neg (fun z => h18 z.1)]
    unfold qm_Pv
    rw [if_neg (fun z => h7 z.1), if_neg (fun z => h2 ⟨z.1, z.2.2⟩)]
  · rfl
theorem qm_P2_k {y : qa_L} {v : qa_M} (t : Nat) {a b f : Nat} (h7 : a ≠ 7) (h18 : a ≠ 18) (h2 : ¬ (a = 2 ∧ f = 13)) : qm_P2 y v t a b f = v a b f := by
  induction t with
  | zero => rfl
  | succ t ih => rw [qm_P2, qm_Pt_k h7 h18 h2, ih]
theorem qm_P2_kk {y : qa_L} {v : qa_M} (t : Nat) {a : Nat} (h7 : a ≠ 7) (h18 : a ≠ 18) (h2 : a ≠ 2) : qm_P2 y v t a = v a := by
  funext b f
  exact qm_P2_k t h7 h18 (fun z => h2 z.1)
theorem qm_vok_n {y : qa_L} {u v : qa_M} (h2 : ∀ b f, f ≠ 13 → u 2 b f = v 2 b f) (h3 : u 3 = v 3) (h0 : u 0 0 11 = v 0 0 11) (hv : qm_vok y v) : qm_vok y u := by
  have s0 : ∀ i, qm_sz u i = qm_sz v i := fun i => by unfold qm_sz; rw [h2 i 11 (by decide)]
  refine ⟨fun i hi => ?_, fun i hi => ?_, fun i hi rs => ?_⟩
  · rw [h2 i 12 (by decide), hv.1 i hi, qm_hm_m (h2 i 11 (by decide)) (fun j => h2 j 9 (by decide)) (fun j => h2 j 6 (by decide)) (fun j => by rw [h3])]
  · rw [s0, h2 i 11 (by decide)]
    exact hv.2.1 i hi
  · rw [s0, qm_bl_n hi (h2 i 11 (by decide)) (fun j => h2 j 9 (by decide)) (fun j => h2 j 10 (by decide)) (fun j => h2 j 6 (by decide)) (fun j => by rw [h3]) h0 (fun _ _ => rfl)]
    exact hv.2.2 i hi rs
theorem qm_gi_no {n : Nat} {v : qa_M} (h : ∀ a, a < n → ¬ v 2 a 9 = 0) : qm_gi n v = fun _ => 0 := by
  unfold qm_gi
  rw [qm_find_no (fun a ha => decide_eq_false (h a ha))]
theorem qm_gi_at {n f : Nat} {v : qa_M} (hf : f < n) (h0 : v 2 f 9 = 0) (hb : ∀ a, a < f → ¬ v 2 a 9 = 0) : qm_gi n v = v 5 f := by
  unfold qm_gi
  rw [qm_find hf (fun a ha => decide_eq_false (hb a ha)) (decide_eq_true h0)]
