/-! programs, as the reference plays them -/
theorem qm_rf_s {op : Int32} {d : Nat} {top : Int32} (h : nI d < qm_nee op) : qm_rf op d top = -1000000001 := by unfold qm_rf; rw [if_pos h]
theorem qm_rf_z {op : Int32} {d : Nat} {top : Int32} (h : ¬ nI d < qm_nee op) (h6 : op = 6) (h0 : top = 0) : qm_rf op d top = -1000000003 := by unfold qm_rf; rw [if_neg h, if_pos ⟨h6, h0⟩]
theorem qm_rf_dp {op : Int32} {d : Nat} {top : Int32} (h : ¬ nI d < qm_nee op) (h6 : ¬ op = 6) (h9 : op ≤ 2 ∨ op = 9) (hd : nI d = 6) : qm_rf op d top = -1000000002 := by
  unfold qm_rf; rw [if_neg h, if_neg (fun z => h6 z.1), if_pos ⟨h9, by rw [hd]; decide⟩]
theorem qm_rf_ok {op : Int32} {d : Nat} {top : Int32} (h : ¬ nI d < qm_nee op) (h6 : op = 6 → ¬ top = 0) (h9 : (op ≤ 2 ∨ op = 9) → d < 6) : qm_rf op d top = 0 := by
  unfold qm_rf
  rw [if_neg h, if_neg (fun z => h6 z.1 z.2), if_neg]
  intro z
  have := h9 z.1
  have z2 : nI 6 ≤ nI d := z.2
  rw [nI_leI (by omega) (by omega)] at z2
  omega
theorem qm_ex_r {P X inp wds : Nat → Int32} {L p : Nat} {stk : List Int32} {op c : Int32} (h : p < L) (hP : P p = op) (hr : qm_rf op stk.length (stk.headD 0) = c) (hc : ¬ c = 0) : qm_ex P X inp wds (L - p) p 0 stk = c := by
  rw [qm_ex_0 h, hP, hr, if_pos hc]
theorem qm_ex_k {P X inp wds : Nat → Int32} {L : Nat} {stk : List Int32} (k p : Nat) : qm_ex P X inp wds (L - p) p k stk = qm_ex P X inp wds (L - (p + k)) (p + k) 0 stk := by
  induction k generalizing p with
  | zero => rfl
  | succ k ih =>
    by_cases h : p < L
    · rw [qm_ex_s h, ih, show p + 1 + k = p + (k + 1) by omega]
    · rw [show L - p = 0 by omega, show L - (p + (k + 1)) = 0 by omega, qm_ex, qm_ex]
theorem qm_ex_8 {P X inp wds : Nat → Int32} {L p : Nat} {stk : List Int32} {k : Nat} (h : p < L) (hP : P p = nI 8) (hr : qm_rf (nI 8) stk.length (stk.headD 0) = 0) (hk : (if stk.headD 0 = 0 then qm_ix (X p) else 0) = k) : qm_ex P X inp wds (L - p) p 0 stk = qm_ex P X inp wds (L - (p + 1 + k)) (p + 1 + k) 0 stk.tail := by
  rw [qm_ex_0 h, hP, hr, if_neg (fun q => q rfl), if_pos (by decide), hk, qm_ex_k]
theorem qm_ex_2 {P X inp wds : Nat → Int32} {L p : Nat} {b a : Int32} {r : List Int32} {op : Int32} (h : p < L) (hP : P p = op) (hr : qm_rf op (r.length + 2) b = 0) (h8 : ¬ op = 8) (h3 : ¬ op < 3 ∧ ¬ 7 < op) : qm_ex P X inp wds (L - p) p 0 (b :: a :: r) = qm_ex P X inp wds (L - (p + 1)) (p + 1) 0 (qm_two op a b :: r) := by
  rw [qm_ex_0 h, hP, show qm_rf op (b :: a :: r).length ((b :: a :: r).headD 0) = 0 from hr, if_neg (fun q => q rfl), if_neg h8, if_pos h3]
  rfl
theorem qm_ex_f {P X inp wds : Nat → Int32} {L p : Nat} {stk : List Int32} {op x : Int32} (h : p < L) (hP : P p = op) (hr : qm_rf op stk.length (stk.headD 0) = 0) (h8 : ¬ op = 8) (h3 : ¬ (¬ op < 3 ∧ ¬ 7 < op)) (hx : qm_fe op (X p) inp wds (stk.headD 0) = x) : qm_ex P X inp wds (L - p) p 0 stk = qm_ex P X inp wds (L - (p + 1)) (p + 1) 0 (x :: stk) := by
  rw [qm_ex_0 h, hP, hr, if_neg (fun q => q rfl), if_neg h8, if_neg h3, hx]
theorem qm_fe_0 {x : Int32} {inp wds : Nat → Int32} {top : Int32} : qm_fe (nI 0) x inp wds top = x := by
  unfold qm_fe; rw [if_neg (by decide), if_neg (by decide), if_neg (by decide)]
theorem qm_fe_1 {x : Int32} {j : Nat} {inp wds : Nat → Int32} {top : Int32} (hj : j < 1000) (hx : x = nI j) : qm_fe (nI 1) x inp wds top = inp j := by
  unfold qm_fe; rw [if_pos (by decide), hx, qm_ix_n (by omega)]
theorem qm_fe_2 {x : Int32} {j : Nat} {inp wds : Nat → Int32} {top : Int32} (hj : j < 1000) (hx : x = nI j) : qm_fe (nI 2) x inp wds top = wds j := by
  unfold qm_fe; rw [if_neg (by decide), if_pos (by decide), hx, qm_ix_n (by omega)]
theorem qm_fe_9 {x : Int32} {inp wds : Nat → Int32} {top : Int32} : qm_fe (nI 9) x inp wds top = top := by
  unfold qm_fe; rw [if_neg (by decide), if_neg (by decide), if_pos (by decide)]
theorem qm_ex_n {P X inp wds P' X' inp' wds' : Nat → Int32} {n : Nat} (hn : n ≤ 7) {L : Nat} (h1 : ∀ z, z < L → P z = P' z) (h2 : ∀ z, z < L → X z = X' z) (h3 : ∀ j, j < n → inp j = inp' j) (h4 : ∀ j, j < 4 → wds j = wds' j) (hok : ∀ z, z < L → qm_iok n (P z) (X z)) (f p k : Nat) (stk : List Int32) (hf : f + p = L) : qm_ex P X inp wds f p k stk = qm_ex P' X' inp' wds' f p k stk := by
  induction f generalizing p k stk with
  | zero => rw [qm_ex, qm_ex]
  | succ f ih =>
    cases k with
    | succ k => rw [qm_ex, qm_ex]; exact ih _ _ _ (by omega)
    | zero =>
      rw [qm_ex, qm_ex, ← h1 p (by omega), ← h2 p (by omega), ih _ _ _ (by omega), ih _ _ _ (by omega), ih _ _ _ (by omega)]
      have e : qm_fe (P p) (X p) inp wds (stk.headD 0) = qm_fe (P p) (X p) inp' wds' (stk.headD 0) := by
        obtain ⟨-, o1, o2, -⟩ := hok p (by omega)
        unfold qm_fe
        by_cases c1 : P p = 1
        · obtain ⟨j, hj, e⟩ := o1 c1
          rw [if_pos c1, if_pos c1, e, qm_ix_n (by omega), h3 j hj]
        · rw [if_neg c1, if_neg c1]
          by_cases c2 : P p = 2
          · obtain ⟨j, hj, e⟩ := o2 c2
            rw [if_pos c2, if_pos c2, e, qm_ix_n (by omega), h4 j hj]
          · rw [if_neg c2, if_neg c2]
      rw [e]
