/-- task t is due in frame f -/
def qm_due (v : qa_M) (t : Nat) (f : Int32) : Bool := decide (0 < v 13 t 3) && decide (f - f / v 13 t 3 * v 13 t 3 = v 13 t 4)
