/-! programs on a stack -/
def qm_nee (op : Int32) : Int32 := if op < 3 ∨ 7 < op then (if op = 8 ∨ op = 9 then 1 else 0) else 2
def qm_two (op a b : Int32) : Int32 := if op = 3 then a + b else if op = 4 then a - b else if op = 5 then a * b else if op = 6 then (if b = 0 then -1000000003 else qm_fd a b) else if a < b then 1 else 0
/-- what an instruction puts that takes nothing -/
def qm_fe (op x : Int32) (inp wds : Nat → Int32) (top : Int32) : Int32 := if op = 1 then inp (qm_ix x) else if op = 2 then wds (qm_ix x) else if op = 9 then top else x
/-- the result that ends a program before an instruction, 0 if none does: d ints on the stack, the top as said -/
def qm_rf (op : Int32) (d : Nat) (top : Int32) : Int32 := if nI d < qm_nee op then -1000000001 else if op = 6 ∧ top = 0 then -1000000003 else if (op ≤ 2 ∨ op = 9) ∧ 6 ≤ nI d then -1000000002 else 0
/-- a program's result: fuel (instructions left), place, how many to leave out, stack (top first) -/
def qm_ex (P X inp wds : Nat → Int32) : Nat → Nat → Nat → List Int32 → Int32
  | 0, _, _, stk => stk.headD (-1000000001)
  | f + 1, p, k + 1, stk => qm_ex P X inp wds f (p + 1) k stk
  | f + 1, p, 0, stk =>
    if ¬ qm_rf (P p) stk.length (stk.headD 0) = 0 then qm_rf (P p) stk.length (stk.headD 0)
    else if P p = 8 then qm_ex P X inp wds f (p + 1) (if stk.headD 0 = 0 then qm_ix (X p) else 0) stk.tail
    else if ¬ P p < 3 ∧ ¬ 7 < P p then qm_ex P X inp wds f (p + 1) 0 (qm_two (P p) (stk.tail.headD 0) (stk.headD 0) :: stk.tail.tail)
    else qm_ex P X inp wds f (p + 1) 0 (qm_fe (P p) (X p) inp wds (stk.headD 0) :: stk)
/-- the array a holds the stack: bottom at 0 -/
def qm_st (a : Nat → Int32) : List Int32 → Prop
  | [] => True
  | b :: r => a r.length = b ∧ qm_st a r
theorem qm_st_n {a a' : Nat → Int32} {r : List Int32} (h : qm_st a r) (hn : ∀ q, q < r.length → a' q = a q) : qm_st a' r := by
  induction r with
  | nil => trivial
  | cons b r ih =>
    refine ⟨?_, ih h.2 (fun q hq => hn q (by simp; omega))⟩
    rw [hn r.length (by simp)]
    exact h.1
/-- an instruction of a program: a number 0 .. 9, with what it wants of x -/
def qm_iok (n : Nat) (op x : Int32) : Prop := (∃ o, o ≤ 9 ∧ op = nI o) ∧ (op = 1 → ∃ j, j < n ∧ x = nI j) ∧ (op = 2 → ∃ j, j < 4 ∧ x = nI j) ∧ (op = 8 → ∃ j, j ≤ 11 ∧ x = nI j)
theorem qm_rf_d1 {op : Int32} {d : Nat} {top : Int32} (h : qm_rf op d top = 0) (hd : d ≤ 6) (h8 : op = 8 ∨ op = 9) : 1 ≤ d := by
  unfold qm_rf at h
  split at h
  · exact absurd h (by decide)
  · rename_i q
    have e : qm_nee op = 1 := by
      unfold qm_nee
      rcases h8 with rfl | rfl
      · decide
      · decide
    rw [e, show (1 : Int32) = nI 1 from rfl, nI_ltI (by omega) (by omega)] at q
    omega
theorem qm_rf_d2 {op : Int32} {d : Nat} {top : Int32} (h : qm_rf op d top = 0) (hd : d ≤ 6) (h1 : ¬ op < 3) (h2 : ¬ 7 < op) : 2 ≤ d := by
  unfold qm_rf at h
  split at h
  · exact absurd h (by decide)
  · rename_i q
    have e : qm_nee op = 2 := by
      unfold qm_nee
      rw [if_neg]
      exact fun z => z.elim h1 h2
    rw [e, show (2 : Int32) = nI 2 from rfl, nI_ltI (by omega) (by omega)] at q
    omega
theorem qm_rf_d6 {op : Int32} {d : Nat} {top : Int32} (h : qm_rf op d top = 0) (hd : d ≤ 6) (ho : op ≤ 2 ∨ op = 9) : d < 6 := by
  unfold qm_rf at h
  split at h
  · exact absurd h (by decide)
  · split at h
    · exact absurd h (by decide)
    · split at h
      · exact absurd h (by decide)
      · rename_i q
        rw [show (6 : Int32) = nI 6 from rfl, nI_leI (by omega) (by omega)] at q
        rcases Nat.lt_or_ge d 6 with z | z
        · exact z
        · exact absurd ⟨ho, z⟩ q
theorem qm_op29 {op : Int32} (h : ∃ o, o ≤ 9 ∧ op = nI o) (h8 : ¬ op = 8) (h3 : op < 3 ∨ 7 < op) : op ≤ 2 ∨ op = 9 := by
  obtain ⟨o, ho, rfl⟩ := h
  have : o = 0 ∨ o = 1 ∨ o = 2 ∨ o = 3 ∨ o = 4 ∨ o = 5 ∨ o = 6 ∨ o = 7 ∨ o = 8 ∨ o = 9 := by omega
  rcases this with rfl | rfl | rfl | rfl | rfl | rfl | rfl | rfl | rfl | rfl
  · exact Or.inl (by decide)
  · exact Or.inl (by decide)
  · exact Or.inl (by decide)
  · exact absurd h3 (by decide)
  · exact absurd h3 (by decide)
  · exact absurd h3 (by decide)
  · exact absurd h3 (by decide)
  · exact absurd h3 (by decide)
  · exact absurd rfl h8
  · exact Or.inr rfl
theorem qm_ex_s {P X inp wds : Nat → Int32} {L p k : Nat} {stk : List Int32} (h : p < L) : qm_ex P X inp wds (L - p) p (k + 1) stk = qm_ex P X inp wds (L - (p + 1)) (p + 1) k stk := by
  rw [show L - p = (L - (p + 1)) + 1 by omega, qm_ex]
theorem qm_ex_0 {P X inp wds : Nat → Int32} {L p : Nat} {stk : List Int32} (h : p < L) : qm_ex P X inp wds (L - p) p 0 stk =
    if ¬ qm_rf (P p) stk.length (stk.headD 0) = 0 then qm_rf (P p) stk.length (stk.headD 0)
    else if P p = 8 then qm_ex P X inp wds (L - (p + 1)) (p + 1) (if stk.headD 0 = 0 then qm_ix (X p) else 0) stk.tail
    else if ¬ P p < 3 ∧ ¬ 7 < P p then qm_ex P X inp wds (L - (p + 1)) (p + 1) 0 (qm_two (P p) (stk.tail.headD 0) (stk.headD 0) :: stk.tail.tail)
    else qm_ex P X inp wds (L - (p + 1)) (p + 1) 0 (qm_fe (P p) (X p) inp wds (stk.headD 0) :: stk) := by
  rw [show L - p = (L - (p + 1)) + 1 by omega, qm_ex]
theorem qm_rf_0 (op a b : Int32) : qm_rf op 0 a = qm_rf op 0 b := by
  unfold qm_rf
  by_cases h : nI 0 < qm_nee op
  · rw [if_pos h, if_pos h]
  · rw [if_neg h, if_neg h]
    have n6 : ¬ op = 6 := fun q => h (by rw [q]; decide)
    have na : ¬ (op = 6 ∧ a = 0) := fun z => n6 z.1
    have nb : ¬ (op = 6 ∧ b = 0) := fun z => n6 z.1
    rw [if_neg na, if_neg nb]
theorem qm_nlt2 {a b : Int32} (h : b ≤ a) : ¬ a < b := fun q => qm_nle q h
