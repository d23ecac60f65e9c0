/-! tasks -/
/-- the result of task t at node i -/
def qm_rs (v : qa_M) (t i : Nat) : Int32 := qm_ex (v 14 t) (v 15 t) (v 5 i) (v 7 i) (qm_ix (v 13 t 2)) 0 0 []
/-- the inputs of the single machine -/
def qm_gi (n : Nat) (v : qa_M) : Nat → Int32 := match (List.range n).find? (fun i => decide (v 2 i 9 = 0)) with
  | some f => v 5 f
  | none => fun _ => 0
/-- what the programs are, and how long -/
def qm_pok (n : Nat) (v : qa_M) : Prop := ∀ t, t < 4 → ∃ L, L ≤ 12 ∧ v 13 t 2 = nI L ∧ ∀ z, z < L → qm_iok n (v 14 t z) (v 15 t z)
/-- part 2 of a frame, task t, where it is due: the votes -/
def qm_Pv (y : qa_L) (t : Nat) (v : qa_M) : qa_M := fun k i f =>
  if k = 7 ∧ i < qa_n y ∧ f = t then (qm_wn y v (qm_rs v t) i).getD 0
  else if k = 2 ∧ i < qa_n y ∧ f = 13 then qm_va y v (qm_rs v t) i (v 2 i 13)
  else v k i f
/-- the whole of part 2 for task t -/
def qm_Pt (y : qa_L) (t : Nat) (v : qa_M) : qa_M := if qm_due v t (v 0 0 11) = true then (fun k i f => if k = 18 ∧ i = 0 ∧ f = t then qm_ex (v 14 t) (v 15 t) (qm_gi (qa_n y) v) (v 18 0) (qm_ix (v 13 t 2)) 0 0 [] else qm_Pv y t v k i f) else v
def qm_P2 (y : qa_L) (v : qa_M) : Nat → qa_M
  | 0 => v
  | t + 1 => qm_Pt y t (qm_P2 y v t)
/-- what part 2 needs of the memory -/
def qm_vok (y : qa_L) (v : qa_M) : Prop := (∀ i, i < qa_n y → v 2 i 12 = qm_hm y v i (qa_n y)) ∧ (∀ i, i < qa_n y → qm_bc (v 2 i 11) = nI (qm_sz v i) ∧ qm_sz v i ≤ 7) ∧ (∀ i, i < qa_n y → ∀ rs, (qm_bl y v rs i (qa_n y)).length ≤ qm_sz v i)
/-- equal but for scratch -/
def qm_eq (u v : qa_M) : Prop := ∀ a, a ≠ 8 → a ≠ 9 → a ≠ 11 → a ≠ 16 → a ≠ 17 → a ≠ 20 → a ≠ 21 → u a = v a
theorem qm_bl_n {y : qa_L} {u v : qa_M} {rs rs' : Nat → Int32} {i : Nat} (hi : i < qa_n y) (h11 : u 2 i 11 = v 2 i 11) (h9 : ∀ j, u 2 j 9 = v 2 j 9) (h10 : ∀ j, u 2 j 10 = v 2 j 10) (h6 : ∀ a, u 2 a 6 = v 2 a 6) (h3 : ∀ j, u 3 i j = v 3 i j) (h0 : u 0 0 11 = v 0 0 11) (hr : ∀ j, j < qa_n y → rs j = rs' j) : qm_bl y u rs i (qa_n y) = qm_bl y v rs' i (qa_n y) := by
  unfold qm_bl
  rw [hr i hi]
  refine qm_ls_ext (fun j hj => ?_) (fun j hj _ => ?_)
  · unfold qm_he
    rw [qm_hr_m h11 (h9 j) h6 (h3 j)]
  · unfold qm_sr
    rw [h9, h10, h0, hr j hj]
theorem qm_ds_m {y : qa_L} {u v : qa_M} {rs rs' : Nat → Int32} {i : Nat} {x : Int32} (h11 : u 2 i 11 = v 2 i 11) (h9 : ∀ j, u 2 j 9 = v 2 j 9) (h10 : ∀ j, u 2 j 10 = v 2 j 10) (h6 : ∀ a, u 2 a 6 = v 2 a 6) (h3 : ∀ j, u 3 i j = v 3 i j) (h0 : u 0 0 11 = v 0 0 11) (k : Nat) (hr : ∀ j, j < k → rs j = rs' j) : qm_ds y u rs i x k = qm_ds y v rs' i x k := by
  induction k with
  | zero => rw [qm_ds, qm_ds, h11]
  | succ k ih =>
    have e : qm_he y u i k = qm_he y v i k := by
      unfold qm_he
      rw [qm_hr_m h11 (h9 k) h6 (h3 k)]
    have e2 : qm_sr u rs i k = qm_sr v rs' i k := by unfold qm_sr; rw [h9, h10, h0, hr k (by omega)]
    rw [qm_ds, qm_ds, ih (fun j hj => hr j (by omega)), e, e2]
theorem qm_wn_m {y : qa_L} {u v : qa_M} {rs rs' : Nat → Int32} {i : Nat} (hi : i < qa_n y) (h11 : u 2 i 11 = v 2 i 11) (h9 : ∀ j, u 2 j 9 = v 2 j 9) (h10 : ∀ j, u 2 j 10 = v 2 j 10) (h6 : ∀ a, u 2 a 6 = v 2 a 6) (h3 : ∀ j, u 3 i j = v 3 i j) (h0 : u 0 0 11 = v 0 0 11) (hr : ∀ j, j < qa_n y → rs j = rs' j) : qm_wn y u rs i = qm_wn y v rs' i := by
  unfold qm_wn
  rw [qm_bl_n hi h11 h9 h10 h6 h3 h0 hr]
  unfold qm_sz
  rw [h11]
theorem qm_va_m {y : qa_L} {u v : qa_M} {rs rs' : Nat → Int32} {i : Nat} {a b : Int32} (hi : i < qa_n y) (h11 : u 2 i 11 = v 2 i 11) (h9 : ∀ j, u 2 j 9 = v 2 j 9) (h10 : ∀ j, u 2 j 10 = v 2 j 10) (h6 : ∀ a, u 2 a 6 = v 2 a 6) (h3 : ∀ j, u 3 i j = v 3 i j) (h0 : u 0 0 11 = v 0 0 11) (hr : ∀ j, j < qa_n y → rs j = rs' j) (hab : a = b) : qm_va y u rs i a = qm_va y v rs' i b := by
  unfold qm_va
  rw [qm_wn_m hi h11 h9 h10 h6 h3 h0 hr, hab]
  cases qm_wn y v rs' i with
  | none => rfl
  | some x =>
    show _ ||| _ = _ ||| _
    rw [qm_ds_m h11 h9 h10 h6 h3 h0 (qa_n y) hr]
theorem qm_hm_m {y : qa_L} {u v : qa_M} {i : Nat} (h11 : u 2 i 11 = v 2 i 11) (h9 : ∀ j, u 2 j 9 = v 2 j 9) (h6 : ∀ a, u 2 a 6 = v 2 a 6) (h3 : ∀ j, u 3 i j = v 3 i j) (k : Nat) : qm_hm y u i k = qm_hm y v i k := by
  induction k with
  | zero => rfl
  | succ k ih => rw [qm_hm, qm_hm, ih, qm_hr_m h11 (h9 k) h6 (h3 k)]
