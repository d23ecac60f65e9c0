theorem qm_ti {x z : Int32} {n : Int} (hz : z.toInt = n) (h : x.toInt = n) : x = z := Int32.toInt_inj.mp (h.trans hz.symm)
theorem qm_sw25 (x : Int32) : x = 2 ∨ x = 3 ∨ x = 4 ∨ x = 5 ∨ (x.toInt < 2 ∨ 5 < x.toInt) := by
  by_cases h : x.toInt < 2 ∨ 5 < x.toInt
  · exact Or.inr (Or.inr (Or.inr (Or.inr h)))
  · rcases (show x.toInt = 2 ∨ x.toInt = 3 ∨ x.toInt = 4 ∨ x.toInt = 5 by omega) with e | e | e | e
    · exact Or.inl (qm_ti (by decide) e)
    · exact Or.inr (Or.inl (qm_ti (by decide) e))
    · exact Or.inr (Or.inr (Or.inl (qm_ti (by decide) e)))
    · exact Or.inr (Or.inr (Or.inr (Or.inl (qm_ti (by decide) e))))
theorem qm_sw36 (x : Int32) : x = 3 ∨ x = 4 ∨ x = 5 ∨ x = 6 ∨ (x.toInt < 3 ∨ 6 < x.toInt) := by
  by_cases h : x.toInt < 3 ∨ 6 < x.toInt
  · exact Or.inr (Or.inr (Or.inr (Or.inr h)))
  · rcases (show x.toInt = 3 ∨ x.toInt = 4 ∨ x.toInt = 5 ∨ x.toInt = 6 by omega) with e | e | e | e
    · exact Or.inl (qm_ti (by decide) e)
    · exact Or.inr (Or.inl (qm_ti (by decide) e))
    · exact Or.inr (Or.inr (Or.inl (qm_ti (by decide) e)))
    · exact Or.inr (Or.inr (Or.inr (Or.inl (qm_ti (by decide) e))))
theorem qm_ne_ti {x z : Int32} {n : Int} (hz : z.toInt = n) (h : ¬ x = z) : ¬ x.toInt = n := fun q => h (qm_ti hz q)
theorem qm_out_ne {x : Int32} {lo hi : Int} (h : x.toInt < lo ∨ hi < x.toInt) {z : Int32} (h1 : lo ≤ z.toInt) (h2 : z.toInt ≤ hi) : ¬ x = z := by
  rintro rfl
  omega
theorem qm_div3 : ¬ (3 : Int32) = 0 := by decide
theorem qm_div2 : ¬ (2 : Int32) = 0 := by decide
/-- what a node shows as its clock -/
def qm_shows (kd x t to : Int32) : Int32 := if kd = 5 then t else qm_says kd x t to 0
/-- how many of the first k nodes, members of i and not j, charge j with i -/
def qm_acc (v : qa_M) (i j : Nat) : Nat → Nat
  | 0 => 0
  | k + 1 => if k ≠ j ∧ qm_in (v 2 i 11) (nI k) = true ∧ qm_in (v 6 i k) (nI j) = true then qm_acc v i j k + 1 else qm_acc v i j k
