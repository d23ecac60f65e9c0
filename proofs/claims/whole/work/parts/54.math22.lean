/-- what the reference makes of a path of two, bearing L -/
def qm_m2 (y : qa_L) (w : qa_M) (i s a : Nat) (x : Int32) (L : Nat) : Int32 := match L with
  | 1 => qm_g y w a (qm_g y w s x a) i
  | _ => qm_maj (qm_ls (fun b => qm_in (w 2 i 11) (nI b) && (!decide (b = i) && (!decide (b = s) && !decide (b = a)))) (qm_g y w a (qm_g y w s x a) i) (fun b => qm_g y w b (qm_g y w a (qm_g y w s x a) b) i) (qa_n y))
theorem qm_shows_2 {kd x t to : Int32} (h : kd = 2) : qm_shows kd x t to = x := by
  unfold qm_shows qm_says
  rw [if_neg (by rw [h]; decide), if_pos h]
theorem qm_shows_3 {kd x t to : Int32} (h : kd = 3) (h2 : ¬ to - to / 2 * 2 = 0) : qm_shows kd x t to = t + x := by
  unfold qm_shows qm_says
  rw [if_neg (by rw [h]; decide), if_neg (by rw [h]; decide), if_pos h, if_neg h2]
theorem qm_shows_4 {kd x t to : Int32} (h : kd = 4) : qm_shows kd x t to = t + x * (to + 1) := by
  unfold qm_shows qm_says
  rw [if_neg (by rw [h]; decide), if_neg (by rw [h]; decide), if_neg (by rw [h]; decide), if_pos h]
theorem qm_shows_o {kd x t to : Int32} (h2 : ¬ kd = 2) (h3 : ¬ kd = 3 ∨ to - to / 2 * 2 = 0) (h4 : ¬ kd = 4) : qm_shows kd x t to = t := by
  unfold qm_shows qm_says
  by_cases h5 : kd = 5
  · rw [if_pos h5]
  · rw [if_neg h5, if_neg h2]
    by_cases q : kd = 3
    · rw [if_pos q, if_pos (h3.resolve_left (fun z => z q))]
    · rw [if_neg q, if_neg h4, if_neg h5]
theorem qm_mk_of {y : qa_L} {w v : qa_M} (hM : qm_mok y w) (hR : qm_RM (qa_n y) w v) : ∀ i, i < qa_n y → ∃ a, a < 2 ^ qa_n y ∧ v 28 0 i = nI a := fun i hi => by
  rw [qr_msk hR hi]
  exact (hM i hi).1
theorem qm_pc_pos {n : Nat} {x : Int32} {i : Nat} (hi : i < n) (h : qm_in x (nI i) = true) : 1 ≤ qm_pc n x := by
  unfold qm_pc
  apply List.length_pos_of_mem (a := i)
  rw [List.mem_filter]
  exact ⟨List.mem_range.mpr hi, h⟩
