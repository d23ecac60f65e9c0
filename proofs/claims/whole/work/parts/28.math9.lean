/-- the set of one node -/
def qm_one (s : Nat) : Int32 := (1 : Int32) <<< (nI s &&& 31)
def qm_SS (n : Nat) (g : Nat → Int32 → Nat → Int32) (s : Nat) (x : Int32) (R : Nat) (h : Nat → Int32) : Prop := match R with
  | 0 => qm_S0 n g (qm_one s) s x 0 h
  | 1 => qm_S1 n g (qm_one s) s x 0 h
  | _ => qm_S2 n g (qm_one s) s x 0 h
def qm_mkL (n : Nat) (h : Nat → Int32) (mem : Int32) (s i L : Nat) : Int32 := match L with
  | 0 => h (0 * n + i)
  | 1 => qm_mk1 n h mem (qm_one s) i 0
  | _ => qm_mk2 n h mem (qm_one s) i
/-- what node i makes of the path of s alone, bearing L: g j x i is what i gets when j sends it x -/
def qm_ag (n : Nat) (g : Nat → Int32 → Nat → Int32) (mem : Int32) (s : Nat) (x : Int32) (i L : Nat) : Int32 := match L with
  | 0 => g s x i
  | 1 => qm_maj (qm_ls (fun a => qm_in mem (nI a) && (!decide (a = i) && !decide (a = s))) (g s x i) (fun a => g a (g s x a) i) n)
  | _ => qm_maj (qm_ls (fun a => qm_in mem (nI a) && (!decide (a = i) && !decide (a = s))) (g s x i) (fun a => qm_maj (qm_ls (fun b => qm_in mem (nI b) && (!decide (b = i) && (!decide (b = s) && !decide (b = a)))) (g a (g s x a) i) (fun b => g b (g a (g s x a) b) i) n)) n)
theorem qm_in_one' {s i : Nat} (hs : s < 31) (hi : i < 31) : qm_in (qm_one s) (nI i) = decide (i = s) := qm_in_one hs hi
theorem qm_mkL_ag {n : Nat} {g : Nat → Int32 → Nat → Int32} {mem : Int32} {s : Nat} {x : Int32} {i L R : Nat} {h : Nat → Int32} (hn : n ≤ 7) (hs : s < n) (hi : i < n) (his : i ≠ s) (hLR : L ≤ R) (hR : R ≤ 2) (hL : L ≤ 2) (H : qm_SS n g s x R h) : qm_mkL n h mem s i L = qm_ag n g mem s x i L := by
  have pin : ∀ a, a < n → (qm_in (qm_rel mem (qm_one s) i) (nI a)) = (qm_in mem (nI a) && (!decide (a = i) && !decide (a = s))) := by
    intro a ha
    rw [qm_in_rel _ _ (by omega) (by omega), qm_in_one' (by omega) (by omega)]
    cases qm_in mem (nI a) <;> cases decide (a = i) <;> cases decide (a = s) <;> rfl
  have pin2 : ∀ a b, a < n → b < n → (qm_in (qm_rel mem (qm_ad (qm_one s) a) i) (nI b)) = (qm_in mem (nI b) && (!decide (b = i) && (!decide (b = s) && !decide (b = a)))) := by
    intro a b ha hb
    rw [qm_in_rel _ _ (by omega) (by omega), qm_in_ad _ (by omega) (by omega), qm_in_one' (by omega) (by omega)]
    cases qm_in mem (nI b) <;> cases decide (b = i) <;> cases decide (b = s) <;> cases decide (b = a) <;> rfl
  have h0 : qm_S0 n g (qm_one s) s x 0 h := by
    match R, H with
    | 0, H => exact H
    | 1, H => exact H.1
    | (_ + 2), H => exact H.1
  have e0 : h (0 * n + i) = g s x i := h0 i hi (by rw [qm_in_one' (by omega) (by omega)]; exact decide_eq_false his)
  have h1 : 1 ≤ R → ∀ a, a < n → ¬ a = s → qm_S0 n g (qm_ad (qm_one s) a) a (g s x a) (0 * n + 1 + a) h := by
    intro hR1 a ha has
    match R, H with
    | 0, H => omega
    | 1, H => exact H.2 a ha (by rw [qm_in_one' (by omega) (by omega)]; exact decide_eq_false has)
    | (_ + 2), H => exact (H.2 a ha (by rw [qm_in_one' (by omega) (by omega)]; exact decide_eq_false has)).1
  have e1 : 1 ≤ R → ∀ a, a < n → ¬ a = s → ¬ a = i → h ((0 * n + 1 + a) * n + i) = g a (g s x a) i := by
    intro hR1 a ha has hai
    refine h1 hR1 a ha has i hi ?_
    rw [qm_in_ad _ (by omega) (by omega), qm_in_one' (by omega) (by omega), decide_eq_false his, decide_eq_false (fun q => hai q.symm)]
    rfl
  match L with
  | 0 => exact e0
  | 1 =>
    show qm_maj _ = qm_maj _
    congr 1
    rw [e0]
    refine qm_ls_ext (fun a ha => pin a ha) (fun a ha q => ?_)
    simp only [Bool.and_eq_true, Bool.not_eq_true', decide_eq_false_iff_not] at q
    exact e1 hLR a ha q.2.2 q.2.1
  | (L + 2) =>
    have hR2 : R = 2 := by omega
    subst hR2
    show qm_maj _ = qm_maj _
    congr 1
    rw [e0]
    refine qm_ls_ext (fun a ha => pin a ha) (fun a ha q => ?_)
    simp only [Bool.and_eq_true, Bool.not_eq_true', decide_eq_false_iff_not] at q
    show qm_maj _ = qm_maj _
    congr 1
    rw [e1 (by omega) a ha q.2.2 q.2.1]
    refine qm_ls_ext (fun b hb => pin2 a b ha hb) (fun b hb q2 => ?_)
    simp only [Bool.and_eq_true, Bool.not_eq_true', decide_eq_false_iff_not] at q2
    obtain ⟨-, q3, q4, q5⟩ := q2
    have H2 := (H.2 a ha (by rw [qm_in_one' (by omega) (by omega)]; exact decide_eq_false q.2.2)).2 b hb (by rw [qm_in_ad _ (by omega) (by omega), qm_in_one' (by omega) (by omega), decide_eq_false q4, decide_eq_false q5]; rfl)
    refine H2 i hi ?_
    rw [qm_in_ad _ (by omega) (by omega), qm_in_ad _ (by omega) (by omega), qm_in_one' (by omega) (by omega), decide_eq_false his, decide_eq_false (fun z => q.2.1 z.symm), decide_eq_false (fun z => q3 z.symm)]
    rfl
