/-- the first node below n whose kind is 0, as the class tells it -/
def qm_lcr (n : Nat) (v : qa_M) : Int32 := match (List.range n).find? (fun i => decide (v 2 i 9 = 0)) with
  | some i => nI i
  | none => -1
theorem qm_find {n k : Nat} {p : Nat → Bool} (hk : k < n) (hb : ∀ a, a < k → p a = false) (h : p k = true) : (List.range n).find? p = some k := by
  rw [List.find?_eq_some_iff_append]
  refine ⟨h, List.range k, (List.range (n - k - 1)).map (fun i => k + 1 + i), ?_, ?_⟩
  · have e : n = k + (1 + (n - k - 1)) := by omega
    conv => lhs; rw [e]
    rw [List.range_add, List.range_add]
    simp [List.range_succ, Nat.add_assoc]
  · intro a ha
    simp [hb a (List.mem_range.mp ha)]
theorem qm_find_no {n : Nat} {p : Nat → Bool} (hb : ∀ a, a < n → p a = false) : (List.range n).find? p = none := by
  rw [List.find?_eq_none]
  intro a ha
  simp [hb a (List.mem_range.mp ha)]
theorem qm_lcr_at {n k : Nat} {v : qa_M} (hk : k < n) (hb : ∀ a, a < k → ¬ v 2 a 9 = 0) (h : v 2 k 9 = 0) : qm_lcr n v = nI k := by
  unfold qm_lcr
  rw [qm_find hk (fun a ha => decide_eq_false (hb a ha)) (decide_eq_true h)]
theorem qm_lcr_no {n : Nat} {v : qa_M} (hb : ∀ a, a < n → ¬ v 2 a 9 = 0) : qm_lcr n v = -1 := by
  unfold qm_lcr
  rw [qm_find_no (fun a ha => decide_eq_false (hb a ha))]
theorem qm_first {p : Nat → Prop} (n : Nat) : (∀ a, a < n → ¬ p a) ∨ ∃ f, f < n ∧ p f ∧ ∀ a, a < f → ¬ p a := by
  induction n with
  | zero => exact Or.inl (fun a h => absurd h (by omega))
  | succ n ih =>
    rcases ih with h | ⟨f, h1, h2, h3⟩
    · by_cases q : p n
      · exact Or.inr ⟨n, by omega, q, h⟩
      · refine Or.inl (fun a ha => ?_)
        by_cases e : a = n
        · rw [e]; exact q
        · exact h a (by omega)
    · exact Or.inr ⟨f, by omega, h2, h3⟩
theorem qm_lcr_or (n : Nat) (v : qa_M) : ((∀ a, a < n → ¬ v 2 a 9 = 0) ∧ qm_lcr n v = -1) ∨ ∃ f, f < n ∧ v 2 f 9 = 0 ∧ (∀ a, a < f → ¬ v 2 a 9 = 0) ∧ qm_lcr n v = nI f := by
  rcases qm_first (p := fun a => v 2 a 9 = 0) n with h | ⟨f, h1, h2, h3⟩
  · exact Or.inl ⟨h, qm_lcr_no h⟩
  · exact Or.inr ⟨f, h1, h2, h3, qm_lcr_at h1 h3 h2⟩
/-- least and greatest clock of the correct nodes from f on -/
def qm_spl (v : qa_M) (f : Nat) : Nat → Int32
  | 0 => v 2 f 6
  | d + 1 => if v 2 (f + 1 + d) 9 = 0 then qm_min (qm_spl v f d) (v 2 (f + 1 + d) 6) else qm_spl v f d
def qm_sph (v : qa_M) (f : Nat) : Nat → Int32
  | 0 => v 2 f 6
  | d + 1 => if v 2 (f + 1 + d) 9 = 0 then qm_max (qm_sph v f d) (v 2 (f + 1 + d) 6) else qm_sph v f d
def qm_spd (n : Nat) (v : qa_M) : Int32 := match (List.range n).find? (fun i => decide (v 2 i 9 = 0)) with
  | some f => qm_sph v f (n - f - 1) - qm_spl v f (n - f - 1)
  | none => 0
theorem qm_lcr_some {n f : Nat} {v : qa_M} (hf : f < n) (hn : n < 2 ^ 31) (e : qm_lcr n v = nI f) : (List.range n).find? (fun i => decide (v 2 i 9 = 0)) = some f := by
  rcases qm_first (p := fun a => v 2 a 9 = 0) n with h | ⟨g, h1, h2, h3⟩
  · rw [qm_lcr_no h] at e
    have h0 : ¬ nI f < 0 := nI_pos (by omega)
    rw [← e] at h0
    exact absurd (by decide) h0
  · rw [qm_lcr_at h1 h3 h2, nI_eq (by omega) (by omega)] at e
    subst e
    exact qm_find h1 (fun a ha => decide_eq_false (h3 a ha)) (decide_eq_true h2)
theorem qm_spd_no {n : Nat} {v : qa_M} (e : qm_lcr n v = -1) (hn : n < 2 ^ 31 := by omega) : qm_spd n v = 0 := by
  rcases qm_first (p := fun a => v 2 a 9 = 0) n with h | ⟨g, h1, h2, h3⟩
  · unfold qm_spd
    rw [qm_find_no (fun a ha => decide_eq_false (h a ha))]
  · rw [qm_lcr_at h1 h3 h2] at e
    have h0 : ¬ nI g < 0 := nI_pos (by omega)
    rw [e] at h0
    exact absurd (by decide) h0
theorem qm_spd_at {n f : Nat} {v : qa_M} (hf : f < n) (e : qm_lcr n v = nI f) (hn : n < 2 ^ 31 := by omega) : qm_spd n v = qm_sph v f (n - f - 1) - qm_spl v f (n - f - 1) := by
  unfold qm_spd
  rw [qm_lcr_some hf hn e]
/-- all correct nodes hold the same -/
def qm_alv (y : qa_L) (v : qa_M) : Bool := decide (∀ i, i < qa_n y → ∀ j, j < qa_n y → v 2 i 9 = 0 → v 2 j 9 = 0 → qm_alk y v i j = true)
theorem qm_alk_iff {y : qa_L} {v : qa_M} {i j : Nat} : qm_alk y v i j = true ↔ v 2 i 11 = v 2 j 11 ∧ (∀ k, k < 4 → v 7 i k = v 7 j k) ∧ ∀ k, k < qa_n y → v 5 i k = v 5 j k := by
  simp only [qm_alk, Bool.and_eq_true, decide_eq_true_eq, qm_same_iff, and_assoc]
theorem qm_alv_no {y : qa_L} {v : qa_M} (h : ∀ a, a < qa_n y → ¬ v 2 a 9 = 0) : qm_alv y v = true := decide_eq_true (fun i hi _ _ h0 => absurd h0 (h i hi))
theorem qm_alv_f {y : qa_L} {v : qa_M} {k f : Nat} (hk : k < qa_n y) (hf : f < qa_n y) (h : v 2 k 9 = 0) (h0 : v 2 f 9 = 0) (q : qm_alk y v k f = false) : qm_alv y v = false := decide_eq_false (fun a => by
  have := a k hk f hf h h0
  rw [q] at this
  cases this)
theorem qm_alv_t {y : qa_L} {v : qa_M} {f : Nat} (h0 : v 2 f 9 = 0) (hb : ∀ a, a < f → ¬ v 2 a 9 = 0) (h : ∀ a, f < a → a < qa_n y → v 2 a 9 = 0 → qm_alk y v a f = true) : qm_alv y v = true := by
  have key : ∀ a, a < qa_n y → v 2 a 9 = 0 → qm_alk y v a f = true := by
    intro a ha h1
    rcases Nat.lt_trichotomy a f with q | q | q
    · exact absurd h1 (hb a q)
    · subst q
      exact qm_alk_iff.mpr ⟨rfl, fun _ _ => rfl, fun _ _ => rfl⟩
    · exact h a q ha h1
  refine decide_eq_true (fun i hi j hj h1 h2 => ?_)
  obtain ⟨a1, a2, a3⟩ := qm_alk_iff.mp (key i hi h1)
  obtain ⟨b1, b2, b3⟩ := qm_alk_iff.mp (key j hj h2)
  exact qm_alk_iff.mpr ⟨a1.trans b1.symm, fun k hk => (a2 k hk).trans (b2 k hk).symm, fun k hk => (a3 k hk).trans (b3 k hk).symm⟩
