theorem qm_gt_m {u v : qa_M} (h9 : ∀ i, u 2 i 9 = v 2 i 9) (h10 : ∀ i, u 2 i 10 = v 2 i 10) (h12 : ∀ i, u 2 i 12 = v 2 i 12) (h8 : u 8 0 6 = v 8 0 6) : qm_gt u = qm_gt v := by
  funext j x i
  simp only [qm_gt, h9, h10, h12, h8]
/-- what node i agrees on, by the class's sets -/
def qm_ac (n : Nat) (v : qa_M) (i s : Nat) (x : Int32) (L : Nat) : Int32 := if i = s then x else if qm_in (v 2 i 11) (nI s) = true then qm_ag n (qm_gt v) (v 2 i 11) s x i L else 0
/-- all nodes -/
def qm_all (n : Nat) : Int32 := ((1 : Int32) <<< (nI n &&& 31)) - 1
