/-! the spread, by pairs -/
theorem qm_sub_i {a b : Int32} (h1 : -1000000000 ≤ a.toInt ∧ a.toInt ≤ 1000000000) (h2 : -1000000000 ≤ b.toInt ∧ b.toInt ≤ 1000000000) : (a - b).toInt = a.toInt - b.toInt := by
  rw [Int32.toInt_sub]
  exact Int.bmod_eq_of_le (by omega) (by omega)
theorem qm_max_c (a b : Int32) : (qm_max a b = a ∨ qm_max a b = b) ∧ a.toInt ≤ (qm_max a b).toInt ∧ b.toInt ≤ (qm_max a b).toInt := by
  unfold qm_max
  split <;> rename_i h <;> simp only [Int32.lt_iff_toInt_lt, Int32.le_iff_toInt_le] at h <;> refine ⟨by simp, ?_, ?_⟩ <;> omega
theorem qm_min_cc (a b : Int32) : (qm_min a b = a ∨ qm_min a b = b) ∧ (qm_min a b).toInt ≤ a.toInt ∧ (qm_min a b).toInt ≤ b.toInt := by
  unfold qm_min
  split <;> rename_i h <;> simp only [Int32.lt_iff_toInt_lt, Int32.le_iff_toInt_le] at h <;> refine ⟨by simp, ?_, ?_⟩ <;> omega
theorem qm_sph_ok {v : qa_M} {f : Nat} (h0 : v 2 f 9 = 0) (d : Nat) : (∃ a, f ≤ a ∧ a ≤ f + d ∧ v 2 a 9 = 0 ∧ qm_sph v f d = v 2 a 6) ∧ ∀ a, f ≤ a → a ≤ f + d → v 2 a 9 = 0 → (v 2 a 6).toInt ≤ (qm_sph v f d).toInt := by
  induction d with
  | zero =>
    refine ⟨⟨f, by omega, by omega, h0, rfl⟩, fun a h1 h2 _ => ?_⟩
    rw [show a = f by omega]
    exact Int.le_refl _
  | succ d ih =>
    obtain ⟨⟨a, a1, a2, a3, a4⟩, h⟩ := ih
    rw [qm_sph]
    split
    · rename_i c
      obtain ⟨m1, m2, m3⟩ := qm_max_c (qm_sph v f d) (v 2 (f + 1 + d) 6)
      refine ⟨?_, fun b b1 b2 b3 => ?_⟩
      · rcases m1 with m1 | m1
        · exact ⟨a, a1, by omega, a3, by rw [m1]; exact a4⟩
        · exact ⟨f + 1 + d, by omega, by omega, c, m1⟩
      · by_cases e : b = f + 1 + d
        · rw [e]; exact m3
        · exact Int.le_trans (h b b1 (by omega) b3) m2
    · rename_i c
      refine ⟨⟨a, a1, by omega, a3, a4⟩, fun b b1 b2 b3 => ?_⟩
      by_cases e : b = f + 1 + d
      · rw [e] at b3; exact absurd b3 c
      · exact h b b1 (by omega) b3
theorem qm_spl_ok {v : qa_M} {f : Nat} (h0 : v 2 f 9 = 0) (d : Nat) : (∃ a, f ≤ a ∧ a ≤ f + d ∧ v 2 a 9 = 0 ∧ qm_spl v f d = v 2 a 6) ∧ ∀ a, f ≤ a → a ≤ f + d → v 2 a 9 = 0 → (qm_spl v f d).toInt ≤ (v 2 a 6).toInt := by
  induction d with
  | zero =>
    refine ⟨⟨f, by omega, by omega, h0, rfl⟩, fun a h1 h2 _ => ?_⟩
    rw [show a = f by omega]
    exact Int.le_refl _
  | succ d ih =>
    obtain ⟨⟨a, a1, a2, a3, a4⟩, h⟩ := ih
    rw [qm_spl]
    split
    · rename_i c
      obtain ⟨m1, m2, m3⟩ := qm_min_cc (qm_spl v f d) (v 2 (f + 1 + d) 6)
      refine ⟨?_, fun b b1 b2 b3 => ?_⟩
      · rcases m1 with m1 | m1
        · exact ⟨a, a1, by omega, a3, by rw [m1]; exact a4⟩
        · exact ⟨f + 1 + d, by omega, by omega, c, m1⟩
      · by_cases e : b = f + 1 + d
        · rw [e]; exact m3
        · exact Int.le_trans m2 (h b b1 (by omega) b3)
    · rename_i c
      refine ⟨⟨a, a1, by omega, a3, a4⟩, fun b b1 b2 b3 => ?_⟩
      by_cases e : b = f + 1 + d
      · rw [e] at b3; exact absurd b3 c
      · exact h b b1 (by omega) b3
/-- clocks in bounds -/
def qm_cok (n : Nat) (w : qa_M) : Prop := ∀ i, i < n → -1000000000 ≤ (w 2 i 6).toInt ∧ (w 2 i 6).toInt ≤ 1000000000
theorem qm_spd_eq {n : Nat} {w : qa_M} {mo : Int32} (hb : qm_cok n w) (h1 : ∀ a, a < n → ∀ b, b < n → w 2 a 9 = 0 → w 2 b 9 = 0 → w 2 a 6 - w 2 b 6 ≤ mo) (h2 : 0 ≤ mo) (h3 : mo = 0 ∨ ∃ a b, a < n ∧ b < n ∧ w 2 a 9 = 0 ∧ w 2 b 9 = 0 ∧ mo = w 2 a 6 - w 2 b 6) : mo = qm_spd n w := by
  rcases qm_first (p := fun a => w 2 a 9 = 0) n with h | ⟨f, f1, f2, f3⟩
  · unfold qm_spd
    rw [qm_find_no (fun a ha => decide_eq_false (h a ha))]
    rcases h3 with h3 | ⟨a, b, ha, hb, h4, -⟩
    · exact h3
    · exact absurd h4 (h a ha)
  · unfold qm_spd
    rw [qm_find f1 (fun a ha => decide_eq_false (f3 a ha)) (decide_eq_true f2)]
    show mo = qm_sph w f (n - f - 1) - qm_spl w f (n - f - 1)
    obtain ⟨⟨a, a1, a2, a3, a4⟩, ha⟩ := qm_sph_ok f2 (n - f - 1)
    obtain ⟨⟨b, b1, b2, b3, b4⟩, hl⟩ := qm_spl_ok f2 (n - f - 1)
    have la : ∀ c, c < n → w 2 c 9 = 0 → f ≤ c := fun c hc h0 => by
      rcases Nat.lt_or_ge c f with z | z
      · exact absurd h0 (f3 c z)
      · exact z
    have g1 := h1 a (by omega) b (by omega) a3 b3
    rw [← a4, ← b4] at g1
    have ba := hb a (by omega)
    have bb := hb b (by omega)
    rw [← a4] at ba
    rw [← b4] at bb
    rw [Int32.le_iff_toInt_le, qm_sub_i ba bb] at g1
    apply Int32.toInt_inj.mp
    rw [qm_sub_i ba bb]
    rw [Int32.le_iff_toInt_le] at h2
    have h2 : (0 : Int) ≤ mo.toInt := h2
    rcases h3 with h3 | ⟨c, d, hc, hd, c0, d0, e⟩
    · have z : mo.toInt = 0 := by rw [h3]; rfl
      have q1 := ha f (by omega) (by omega) f2
      have q2 := hl f (by omega) (by omega) f2
      omega
    · have q1 := ha c (la c hc c0) (by omega) c0
      have q2 := hl d (la d hd d0) (by omega) d0
      have z : mo.toInt = (w 2 c 6).toInt - (w 2 d 6).toInt := by rw [e]; exact qm_sub_i (hb c hc) (hb d hd)
      omega
theorem qm_lel {a b c : Int32} (h : a ≤ b) (h2 : b < c) : a ≤ c := by
  rw [Int32.le_iff_toInt_le] at h ⊢
  rw [Int32.lt_iff_toInt_lt] at h2
  omega
