/-! votes -/
/-- i hears j -/
def qm_he (y : qa_L) (v : qa_M) (i j : Nat) : Bool := !decide (j = i) && qm_hr y v j i
theorem qm_he_in {y : qa_L} {v : qa_M} {i j : Nat} (hn : qa_n y ≤ 7) (h : v 2 i 12 = qm_hm y v i (qa_n y)) (hj : j < qa_n y) : qm_in (v 2 i 12) (nI j) = qm_he y v i j := by
  rw [h, qm_hm_in _ hn (by omega), decide_eq_true hj]
  rfl
/-- what j says to i of its result -/
def qm_sr (v : qa_M) (rs : Nat → Int32) (i j : Nat) : Int32 := qm_says (v 2 j 9) (v 2 j 10) (rs j) (nI i) (v 0 0 11)
/-- the list that i votes over -/
def qm_bl (y : qa_L) (v : qa_M) (rs : Nat → Int32) (i k : Nat) : List Int32 := qm_ls (qm_he y v i) (rs i) (qm_sr v rs i) k
theorem qm_he_i {y : qa_L} {v : qa_M} {i : Nat} : qm_he y v i i = false := by simp [qm_he]
/-- the value that stands more often than half of S, if there is one -/
def qm_win (l : List Int32) (S : Nat) : Option Int32 := l.find? (fun x => decide (S < 2 * l.count x))
theorem qm_win_in {l : List Int32} {S : Nat} {x : Int32} (hS : l.length ≤ S) (h : S < 2 * l.count x) : qm_win l S = some x := by
  unfold qm_win
  cases e : l.find? (fun x => decide (S < 2 * l.count x)) with
  | none =>
    have hx : x ∈ l := List.count_pos_iff.mp (by omega)
    have := List.find?_eq_none.mp e x hx
    simp at this
    omega
  | some z =>
    have hz := List.find?_some e
    simp only [decide_eq_true_eq] at hz
    rcases Classical.em (x = z) with q | q
    · rw [q]
    · have := qm_count2 (l := l) q
      omega
theorem qm_win_no {l : List Int32} {S : Nat} (h : ∀ x, x ∈ l → 2 * l.count x ≤ S) : qm_win l S = none := by
  unfold qm_win
  rw [List.find?_eq_none.mpr]
  intro x hx
  have := h x hx
  simp
  omega
/-- those of the members of i whose message to i is missing or says another value than x, among the first k -/
def qm_ds (y : qa_L) (v : qa_M) (rs : Nat → Int32) (i : Nat) (x : Int32) : Nat → Int32
  | 0 => v 2 i 11 &&& (((1 : Int32) <<< (nI i &&& 31)) ^^^ (-1))
  | j + 1 => if qm_he y v i j = true ∧ qm_sr v rs i j = x then qm_ds y v rs i x j &&& (((1 : Int32) <<< (nI j &&& 31)) ^^^ (-1)) else qm_ds y v rs i x j
def qm_sz (v : qa_M) (i : Nat) : Nat := qm_ix (qm_bc (v 2 i 11))
/-- the vote of i: its word, its accused -/
def qm_wn (y : qa_L) (v : qa_M) (rs : Nat → Int32) (i : Nat) : Option Int32 := qm_win (qm_bl y v rs i (qa_n y)) (qm_sz v i)
def qm_va (y : qa_L) (v : qa_M) (rs : Nat → Int32) (i : Nat) (acc : Int32) : Int32 := match qm_wn y v rs i with
  | some x => acc ||| qm_ds y v rs i x (qa_n y)
  | none => acc
theorem qm_hr_m {y : qa_L} {u v : qa_M} {i j : Nat} (h11 : u 2 i 11 = v 2 i 11) (h9 : u 2 j 9 = v 2 j 9) (h6 : ∀ a, u 2 a 6 = v 2 a 6) (h3 : u 3 i j = v 3 i j) : qm_hr y u j i = qm_hr y v j i := by
  unfold qm_hr
  rw [h11, h9, h6 i, h6 j, h3]
theorem qm_hm_n {y : qa_L} {u v : qa_M} {i : Nat} (h2 : ∀ a, u 2 a = v 2 a) (h3 : ∀ a, u 3 a = v 3 a) (k : Nat) : qm_hm y u i k = qm_hm y v i k := by
  induction k with
  | zero => rfl
  | succ k ih => rw [qm_hm, qm_hm, ih, qm_hr_m (by rw [h2]) (by rw [h2]) (fun a => by rw [h2]) (by rw [h3])]
theorem qm_ds_n {y : qa_L} {u v : qa_M} {rs : Nat → Int32} {i : Nat} {x : Int32} (h2 : ∀ a f, u 2 a f = v 2 a f) (h3 : ∀ a, u 3 a = v 3 a) (h0 : u 0 0 11 = v 0 0 11) (k : Nat) : qm_ds y u rs i x k = qm_ds y v rs i x k := by
  induction k with
  | zero => rw [qm_ds, qm_ds, h2]
  | succ k ih =>
    have e : qm_he y u i k = qm_he y v i k := by
      unfold qm_he
      rw [qm_hr_m (h2 i 11) (h2 k 9) (fun a => h2 a 6) (by rw [h3])]
    have e2 : qm_sr u rs i k = qm_sr v rs i k := by unfold qm_sr; rw [h2 k 9, h2 k 10, h0]
    rw [qm_ds, qm_ds, ih, e, e2]
