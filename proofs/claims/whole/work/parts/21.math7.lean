/-! counting, majorities -/
/-- how many of the d places from p on hold x -/
def qm_cs (a : Nat → Int32) (x : Int32) (p : Nat) : Nat → Nat
  | 0 => 0
  | d + 1 => if a (p + d) = x then qm_cs a x p d + 1 else qm_cs a x p d
theorem qm_cs_le (a : Nat → Int32) (x : Int32) (p d : Nat) : qm_cs a x p d ≤ d := by
  induction d with
  | zero => exact Nat.le_refl _
  | succ d ih => unfold qm_cs; split <;> omega
/-- the first place whose value fills more than half of the seats from there on, as majorityPlace tells it -/
def qm_mp (a : Nat → Int32) (sz : Nat) (seats : Int32) : Int32 := match (List.range sz).find? (fun p => decide (seats < 2 * nI (qm_cs a (a p) p (sz - p)))) with
  | some p => nI p
  | none => -1
theorem qm_mp_at {a : Nat → Int32} {sz k : Nat} {seats : Int32} (hk : k < sz) (hb : ∀ p, p < k → 2 * nI (qm_cs a (a p) p (sz - p)) ≤ seats) (h : seats < 2 * nI (qm_cs a (a k) k (sz - k))) : qm_mp a sz seats = nI k := by
  unfold qm_mp
  rw [qm_find hk (fun p hp => decide_eq_false (qm_nlt2 (hb p hp))) (decide_eq_true h)]
theorem qm_mp_no {a : Nat → Int32} {sz : Nat} {seats : Int32} (hb : ∀ p, p < sz → 2 * nI (qm_cs a (a p) p (sz - p)) ≤ seats) : qm_mp a sz seats = -1 := by
  unfold qm_mp
  rw [qm_find_no (fun p hp => decide_eq_false (qm_nlt2 (hb p hp)))]
theorem qm_mp_or (a : Nat → Int32) (sz : Nat) (seats : Int32) : (qm_mp a sz seats = -1 ∧ ∀ p, p < sz → 2 * nI (qm_cs a (a p) p (sz - p)) ≤ seats) ∨ ∃ k, k < sz ∧ qm_mp a sz seats = nI k ∧ seats < 2 * nI (qm_cs a (a k) k (sz - k)) := by
  rcases qm_first (p := fun p => seats < 2 * nI (qm_cs a (a p) p (sz - p))) sz with h | ⟨f, h1, h2, h3⟩
  · exact Or.inl ⟨qm_mp_no (fun p hp => qm_nlt (h p hp)), fun p hp => qm_nlt (h p hp)⟩
  · exact Or.inr ⟨f, h1, qm_mp_at h1 (fun p hp => qm_nlt (h3 p hp)) h2, h2⟩
/-- the array a holds the list l -/
def qm_hd (a : Nat → Int32) (l : List Int32) : Prop := ∀ q, q < l.length → a q = l.getD q 0
theorem qm_hd_n {a b : Nat → Int32} {l : List Int32} (h : qm_hd a l) (hn : ∀ q, q < l.length → b q = a q) : qm_hd b l := fun q hq => (hn q hq).trans (h q hq)
theorem qm_hd_push {a b : Nat → Int32} {l : List Int32} {x : Int32} (h : qm_hd a l) (hx : b l.length = x) (hn : ∀ q, q < l.length → b q = a q) : qm_hd b (l ++ [x]) := by
  intro q hq
  simp only [List.length_append, List.length_cons, List.length_nil] at hq
  by_cases e : q = l.length
  · subst e
    rw [hx]
    simp
  · rw [hn q (by omega), h q (by omega)]
    simp only [List.getD_eq_getElem?_getD]
    rw [List.getElem?_append_left (by omega)]
theorem qm_hd_drop {a : Nat → Int32} {l : List Int32} (h : qm_hd a l) {p d : Nat} (hd : p + d ≤ l.length) (x : Int32) : qm_cs a x p d = ((l.drop p).take d).count x := by
  induction d with
  | zero => simp [qm_cs]
  | succ d ih =>
    have hlt : p + d < l.length := by omega
    rw [List.take_succ, List.count_append, ← ih (by omega)]
    have e : (l.drop p)[d]? = some (a (p + d)) := by
      rw [List.getElem?_drop, List.getElem?_eq_getElem hlt, h _ hlt]
      simp [List.getD_eq_getElem?_getD, hlt]
    rw [e, show qm_cs a x p (d + 1) = if a (p + d) = x then qm_cs a x p d + 1 else qm_cs a x p d from rfl]
    by_cases q : a (p + d) = x
    · simp [q]
    · simp [q]
theorem qm_hd_cs {a : Nat → Int32} {l : List Int32} (h : qm_hd a l) {p : Nat} (hp : p ≤ l.length) (x : Int32) : qm_cs a x p (l.length - p) = (l.drop p).count x := by
  rw [qm_hd_drop h (by omega), List.take_of_length_le (by simp)]
theorem qm_hd_at {a : Nat → Int32} {l : List Int32} (h : qm_hd a l) {p : Nat} (hp : p < l.length) : a p ∈ l := by
  rw [h p hp]
  simp only [List.getD_eq_getElem?_getD, List.getElem?_eq_getElem hp, Option.getD_some]
  exact List.getElem_mem hp
theorem qm_2nI {c : Nat} : 2 * nI c = nI (2 * c) := by rw [← pk_mul]; rfl
/-- majorityPlace over a list: a place of a value that stands more often than half the seats, or there is none -/
theorem qm_mp_l {a : Nat → Int32} {l : List Int32} {S : Nat} (h : qm_hd a l) (hl : l.length < 1000) (hS : S < 1000) :
    (qm_mp a l.length (nI S) = -1 ∧ ∀ x, x ∈ l → 2 * l.count x ≤ S) ∨ ∃ k, k < l.length ∧ qm_mp a l.length (nI S) = nI k ∧ S < 2 * l.count (a k) := by
  have cl : ∀ x : Int32, l.count x ≤ l.length := fun x => List.count_le_length
  rcases qm_mp_or a l.length (nI S) with ⟨e, hb⟩ | ⟨k, hk, e, h2⟩
  · refine Or.inl ⟨e, fun x hx => ?_⟩
    obtain ⟨s, t, rfl, hn⟩ := List.append_of_mem hx |> fun ⟨s, t, e⟩ => (show ∃ s t, l = s ++ x :: t ∧ x ∉ s by
      obtain ⟨as, bs, e1, e2⟩ := List.eq_append_cons_of_mem hx
      exact ⟨as, bs, e1, e2⟩)
    have hp : s.length < (s ++ x :: t).length := by simp
    have h1 := hb s.length hp
    have ax : a s.length = x := by rw [h _ hp]; simp
    rw [qm_hd_cs h (Nat.le_of_lt hp), ax, qm_2nI, nI_leI (by have h7 := cl x; have h8 : (List.drop s.length (s ++ x :: t)).count x ≤ (s ++ x :: t).count x := List.Sublist.count_le _ (List.drop_sublist _ _); omega) (by omega)] at h1
    rw [List.drop_left] at h1
    rw [List.count_append, List.count_eq_zero_of_not_mem hn]
    omega
  · refine Or.inr ⟨k, hk, e, ?_⟩
    have hle : (l.drop k).count (a k) ≤ l.count (a k) := List.Sublist.count_le _ (List.drop_sublist k l)
    have c2 := cl (a k)
    rw [qm_hd_cs h (Nat.le_of_lt hk), qm_2nI, nI_ltI (by omega) (by omega)] at h2
    omega
/-- the value that stands in more than half of the places, 0 if none does -/
def qm_maj (l : List Int32) : Int32 := (l.find? (fun x => decide (l.length < 2 * l.count x))).getD 0
theorem qm_count2 {l : List Int32} {x y : Int32} (h : ¬ x = y) : l.count x + l.count y ≤ l.length := by
  induction l with
  | nil => simp
  | cons b l ih =>
    rw [List.count_cons, List.count_cons, List.length_cons]
    by_cases h1 : b = x
    · have h2 : ¬ b = y := fun q => h (h1.symm.trans q)
      simp [h1, h]
      omega
    · by_cases h2 : b = y
      · simp [h1, h2]
        have : ¬ y = x := fun q => h q.symm
        simp [this]
        omega
      · simp [h1, h2]
        omega
theorem qm_maj_in {l : List Int32} {x : Int32} (h : l.length < 2 * l.count x) : qm_maj l = x := by
  unfold qm_maj
  cases e : l.find? (fun x => decide (l.length < 2 * l.count x)) with
  | none =>
    have hx : x ∈ l := List.count_pos_iff.mp (by omega)
    have := List.find?_eq_none.mp e x hx
    simp at this
    omega
  | some z =>
    have hz := List.find?_some e
    simp only [decide_eq_true_eq] at hz
    show z = x
    rcases Classical.em (x = z) with q | q
    · exact q.symm
    · have := qm_count2 (l := l) q
      omega
theorem qm_maj_no {l : List Int32} (h : ∀ x, x ∈ l → 2 * l.count x ≤ l.length) : qm_maj l = 0 := by
  unfold qm_maj
  rw [List.find?_eq_none.mpr]
  · rfl
  · intro x hx
    have := h x hx
    simp
    omega
/-- what the class makes of its list -/
theorem qm_mp_maj {a : Nat → Int32} {l : List Int32} (h : qm_hd a l) (hl : l.length < 1000) :
    (qm_mp a l.length (nI l.length) = -1 ∧ qm_maj l = 0) ∨ ∃ k, k < l.length ∧ qm_mp a l.length (nI l.length) = nI k ∧ qm_maj l = a k := by
  rcases qm_mp_l h hl hl with ⟨e, hb⟩ | ⟨k, hk, e, h2⟩
  · exact Or.inl ⟨e, qm_maj_no hb⟩
  · exact Or.inr ⟨k, hk, e, qm_maj_in h2⟩
