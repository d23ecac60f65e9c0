def bt (x : Int32) (i : Nat) : Bool := x.toBitVec.getLsbD i
theorem b_ext {x y : Int32} (h : ∀ i, i < 32 → bt x i = bt y i) : x = y := Int32.toBitVec_inj.mp (BitVec.eq_of_getLsbD_eq (fun i hi => h i hi))
theorem b_or (x y : Int32) (i : Nat) : bt (x ||| y) i = (bt x i || bt y i) := by unfold bt; rw [Int32.toBitVec_or, BitVec.getLsbD_or]
theorem b_and (x y : Int32) (i : Nat) : bt (x &&& y) i = (bt x i && bt y i) := by unfold bt; rw [Int32.toBitVec_and, BitVec.getLsbD_and]
theorem b_xor (x y : Int32) (i : Nat) : bt (x ^^^ y) i = (bt x i ^^ bt y i) := by unfold bt; rw [Int32.toBitVec_xor, BitVec.getLsbD_xor]
theorem b_big {x : Int32} {i : Nat} (h : 32 ≤ i) : bt x i = false := BitVec.getLsbD_of_ge _ _ h
theorem b_255 (i : Nat) : bt 255 i = decide (i < 8) := by
  rcases Nat.lt_or_ge i 32 with h | h
  · exact (by decide +kernel : ∀ i, i < 32 → bt 255 i = decide (i < 8)) i h
  · rw [b_big h, decide_eq_false (by omega)]
theorem b_65535 (i : Nat) : bt 65535 i = decide (i < 16) := by
  rcases Nat.lt_or_ge i 32 with h | h
  · exact (by decide +kernel : ∀ i, i < 32 → bt 65535 i = decide (i < 16)) i h
  · rw [b_big h, decide_eq_false (by omega)]
theorem b_m1 : ∀ i, i < 32 → bt (-1) i = true := by decide +kernel
theorem b_0 (i : Nat) : bt 0 i = false := BitVec.getLsbD_zero
theorem s_l : ∀ n, n < 32 → ((nI n &&& 31).toBitVec.smod 32).toNat = n := by decide +kernel
theorem s_u : ∀ n, n < 32 → (((nI n).toUInt32 &&& Int32.toUInt32 31).toBitVec % 32).toNat = n := by decide +kernel
theorem b_shl (n : Nat) (hn : n < 32) (x : Int32) {i : Nat} (hi : i < 32) : bt (x <<< (nI n &&& 31)) i = (decide (n ≤ i) && bt x (i - n)) := by
  unfold bt
  rw [Int32.toBitVec_shiftLeft]
  show (x.toBitVec <<< ((nI n &&& 31).toBitVec.smod 32).toNat).getLsbD i = _
  rw [s_l n hn, BitVec.getLsbD_shiftLeft]
  rcases Nat.lt_or_ge i n with h | h
  · simp [h, Nat.not_le.mpr h]
  · simp [hi, h, Nat.not_lt.mpr h]
theorem b_ushr (n : Nat) (hn : n < 32) (x : Int32) (i : Nat) : bt ((x.toUInt32 >>> ((nI n).toUInt32 &&& Int32.toUInt32 31)).toInt32) i = bt x (n + i) := by
  show (x.toUInt32 >>> ((nI n).toUInt32 &&& Int32.toUInt32 31)).toBitVec.getLsbD i = x.toUInt32.toBitVec.getLsbD (n + i)
  rw [UInt32.toBitVec_shiftRight]
  show (x.toUInt32.toBitVec >>> (((nI n).toUInt32 &&& Int32.toUInt32 31).toBitVec % 32).toNat).getLsbD i = _
  rw [s_u n hn, BitVec.getLsbD_ushiftRight]
theorem b_sshr (n : Nat) (hn : n < 32) (x : Int32) {i : Nat} (hi : i < 32) : bt (x >>> (nI n &&& 31)) i = if n + i < 32 then bt x (n + i) else bt x 31 := by
  unfold bt
  rw [Int32.toBitVec_shiftRight]
  show (x.toBitVec.sshiftRight ((nI n &&& 31).toBitVec.smod 32).toNat).getLsbD i = _
  rw [s_l n hn, BitVec.getLsbD_sshiftRight, BitVec.msb_eq_getLsbD_last]
  simp [hi]
theorem b_shl8 (x : Int32) {i : Nat} (hi : i < 32) : bt (x <<< ((8 : Int32) &&& 31)) i = (decide (8 ≤ i) && bt x (i - 8)) := b_shl 8 (by omega) x hi
theorem b_shl16 (x : Int32) {i : Nat} (hi : i < 32) : bt (x <<< ((16 : Int32) &&& 31)) i = (decide (16 ≤ i) && bt x (i - 16)) := b_shl 16 (by omega) x hi
theorem b_shl24 (x : Int32) {i : Nat} (hi : i < 32) : bt (x <<< ((24 : Int32) &&& 31)) i = (decide (24 ≤ i) && bt x (i - 24)) := b_shl 24 (by omega) x hi
theorem b_sshr8 (x : Int32) {i : Nat} (hi : i < 32) : bt (x >>> ((8 : Int32) &&& 31)) i = if 8 + i < 32 then bt x (8 + i) else bt x 31 := b_sshr 8 (by omega) x hi
theorem b_1 : ∀ i, i < 32 → bt 1 i = decide (i = 0) := by decide +kernel
theorem qm_in_bt (x : Int32) {i : Nat} (hi : i < 31) : qm_in x (nI i) = bt x i := by
  have h : bt ((x >>> (nI i &&& 31)) &&& 1) 0 = bt x i := by
    rw [b_and, b_sshr i (by omega) x (by omega), if_pos (by omega), b_1 0 (by omega)]
    simp
  unfold qm_in
  by_cases e : (x >>> (nI i &&& 31)) &&& 1 = 0
  · rw [decide_eq_true e]
    rw [e, b_0] at h
    rw [← h]
    rfl
  · rw [decide_eq_false e]
    cases q : bt x i with
    | true => rfl
    | false =>
      refine absurd (b_ext (fun j hj => ?_)) e
      rw [b_0]
      by_cases z : j = 0
      · subst z
        rw [h, q]
      · rw [b_and, b_1 j hj, decide_eq_false z, Bool.and_false]
theorem qm_in_and (x y : Int32) {i : Nat} (hi : i < 31) : qm_in (x &&& y) (nI i) = (qm_in x (nI i) && qm_in y (nI i)) := by
  rw [qm_in_bt _ hi, qm_in_bt _ hi, qm_in_bt _ hi, b_and]
theorem qm_in_or (x y : Int32) {i : Nat} (hi : i < 31) : qm_in (x ||| y) (nI i) = (qm_in x (nI i) || qm_in y (nI i)) := by
  rw [qm_in_bt _ hi, qm_in_bt _ hi, qm_in_bt _ hi, b_or]
theorem qm_in_not (x : Int32) {i : Nat} (hi : i < 31) : qm_in (x ^^^ (-1)) (nI i) = !qm_in x (nI i) := by
  rw [qm_in_bt _ hi, qm_in_bt _ hi, b_xor, b_m1 i (by omega)]
  cases bt x i <;> rfl
theorem qm_in_one {a i : Nat} (ha : a < 31) (hi : i < 31) : qm_in (1 <<< (nI a &&& 31)) (nI i) = decide (i = a) := by
  rw [qm_in_bt _ hi, b_shl a (by omega) 1 (by omega), b_1 _ (by omega)]
  by_cases e : i = a
  · subst e
    simp
  · rw [decide_eq_false e]
    by_cases h : a ≤ i
    · rw [decide_eq_true h, decide_eq_false (by omega)]
      rfl
    · rw [decide_eq_false h]
      rfl
theorem qm_in_ad (P : Int32) {a i : Nat} (ha : a < 31) (hi : i < 31) : qm_in (qm_ad P a) (nI i) = (qm_in P (nI i) || decide (i = a)) := by
  unfold qm_ad
  rw [qm_in_or _ _ hi, qm_in_one ha hi]
theorem qm_in_0 {i : Nat} (hi : i < 31) : qm_in 0 (nI i) = false := by rw [qm_in_bt _ hi, b_0]
/-- whom node i hears of a path: its members, not on the path, not itself -/
def qm_rel (mem P : Int32) (i : Nat) : Int32 := (mem &&& (P ^^^ (-1))) &&& (((1 : Int32) <<< (nI i &&& 31)) ^^^ (-1))
theorem qm_in_rel (mem P : Int32) {i j : Nat} (hi : i < 31) (hj : j < 31) : qm_in (qm_rel mem P i) (nI j) = ((qm_in mem (nI j) && !qm_in P (nI j)) && !decide (j = i)) := by
  unfold qm_rel
  rw [qm_in_and _ _ hj, qm_in_and _ _ hj, qm_in_not _ hj, qm_in_not _ hj, qm_in_one hi hj]
/-- what a node holds, and then what it makes of each node of a set that follows -/
def qm_ls (p : Nat → Bool) (own : Int32) (f : Nat → Int32) (k : Nat) : List Int32 := own :: ((List.range k).filter p).map f
theorem qm_ls_t {p : Nat → Bool} {own : Int32} {f : Nat → Int32} {k : Nat} (h : p k = true) : qm_ls p own f (k + 1) = qm_ls p own f k ++ [f k] := by
  unfold qm_ls
  rw [List.range_succ, List.filter_append]
  simp [h]
theorem qm_ls_f {p : Nat → Bool} {own : Int32} {f : Nat → Int32} {k : Nat} (h : p k = false) : qm_ls p own f (k + 1) = qm_ls p own f k := by
  unfold qm_ls
  rw [List.range_succ, List.filter_append]
  simp [h]
theorem qm_ls_len {p : Nat → Bool} {own : Int32} {f : Nat → Int32} {i : Nat} (hi : p i = false) (k : Nat) : (qm_ls p own f k).length ≤ if i < k then k else k + 1 := by
  induction k with
  | zero => simp [qm_ls]
  | succ k ih =>
    cases h : p k with
    | true =>
      have hne : i ≠ k := fun e => by rw [e, h] at hi; cases hi
      rw [qm_ls_t h, List.length_append]
      simp only [List.length_cons, List.length_nil]
      split at ih <;> split <;> omega
    | false =>
      rw [qm_ls_f h]
      split at ih <;> split <;> omega
theorem qm_ls_ext {p q : Nat → Bool} {own : Int32} {f g : Nat → Int32} {k : Nat} (hp : ∀ j, j < k → p j = q j) (hf : ∀ j, j < k → q j = true → f j = g j) : qm_ls p own f k = qm_ls q own g k := by
  induction k with
  | zero => rfl
  | succ k ih =>
    have e := ih (fun j hj => hp j (by omega)) (fun j hj => hf j (by omega))
    cases h : q k with
    | true => rw [qm_ls_t h, qm_ls_t (by rw [hp k (by omega)]; exact h), e, hf k (by omega) h]
    | false => rw [qm_ls_f h, qm_ls_f (by rw [hp k (by omega)]; exact h), e]
def qm_mk1 (n : Nat) (h : Nat → Int32) (mem P : Int32) (i r : Nat) : Int32 := qm_maj (qm_ls (fun j => qm_in (qm_rel mem P i) (nI j)) (h (r * n + i)) (fun j => h ((r * n + 1 + j) * n + i)) n)
def qm_mk2 (n : Nat) (h : Nat → Int32) (mem P : Int32) (i : Nat) : Int32 := qm_maj (qm_ls (fun j => qm_in (qm_rel mem P i) (nI j)) (h (0 * n + i)) (fun j => qm_mk1 n h mem (qm_ad P j) i (0 * n + 1 + j)) n)
