/-! one memory of ints under names (kind, instance, field or place); cells of the heap are named (kind, instance) -/
abbrev qa_M : Type := Nat → Nat → Nat → Int32
def qa_up (v : qa_M) (k i f : Nat) (x : Int32) : qa_M := fun k' i' f' => if k' = k ∧ i' = i ∧ f' = f then x else v k' i' f'
theorem qa_up_s {v : qa_M} {k i f : Nat} {x : Int32} : qa_up v k i f x k i f = x := by simp [qa_up]
theorem qa_up_k {v : qa_M} {k i f k' i' f' : Nat} {x : Int32} (h : k' ≠ k) : qa_up v k i f x k' i' f' = v k' i' f' := by simp [qa_up, h]
theorem qa_up_i {v : qa_M} {k i f k' i' f' : Nat} {x : Int32} (h : i' ≠ i) : qa_up v k i f x k' i' f' = v k' i' f' := by simp [qa_up, h]
theorem qa_up_f {v : qa_M} {k i f k' i' f' : Nat} {x : Int32} (h : f' ≠ f) : qa_up v k i f x k' i' f' = v k' i' f' := by simp [qa_up, h]
theorem qa_up_kk {v : qa_M} {k i f k' : Nat} {x : Int32} (h : k' ≠ k) : qa_up v k i f x k' = v k' := by funext a b; simp [qa_up, h]
theorem qa_up_ii {v : qa_M} {k i f k' i' : Nat} {x : Int32} (h : ¬ (k' = k ∧ i' = i)) : qa_up v k i f x k' i' = v k' i' := by
  funext b
  simp only [qa_up]
  rw [if_neg]
  exact fun q => h ⟨q.1, q.2.1⟩
/-- a layout: class numbers and slots, array classes, addresses, all addresses, the three numbers that stay -/
abbrev qa_L : Type := va_G × (Nat → ClassId) × (Nat → Nat → Nat) × List Nat × (Nat × Nat × Int32)
def qa_D (y : qa_L) : va_G := y.1
def qa_c (y : qa_L) : Nat → ClassId := y.2.1
def qa_a (y : qa_L) : Nat → Nat → Nat := y.2.2.1
def qa_As (y : qa_L) : List Nat := y.2.2.2.1
def qa_n (y : qa_L) : Nat := y.2.2.2.2.1
def qa_m (y : qa_L) : Nat := y.2.2.2.2.2.1
def qa_d (y : qa_L) : Int32 := y.2.2.2.2.2.2
def qa_A (y : qa_L) : Nat → Prop := fun q => q ∈ qa_As y
/-- rows of the tree of paths, and the places of held -/
def qa_rows (n m : Nat) : Nat := match m with
  | 0 => 1
  | 1 => n + 1
  | _ => (n + 1) * n + 1
def qa_h (y : qa_L) : Nat := qa_rows (qa_n y) (qa_m y) * qa_n y
/-- how many cells of a kind there are -/
def qa_pr (y : qa_L) (k : Nat) : Nat := match k with
  | 0 => 1
  | 1 => 1
  | 2 => qa_n y
  | 3 => qa_n y
  | 4 => qa_n y
  | 5 => qa_n y
  | 6 => qa_n y
  | 7 => qa_n y
  | 8 => 1
  | 9 => 1
  | 10 => 1
  | 11 => qa_m y + 1
  | 12 => 1
  | 13 => 4
  | 14 => 4
  | 15 => 4
  | 16 => 1
  | 17 => 1
  | 18 => 1
  | 19 => 1
  | 20 => 1
  | 21 => 1
  | 22 => 1
  | 23 => 1
  | 24 => 1
  | 25 => 1
  | 26 => 1
  | 27 => 1
  | 28 => 1
  | 29 => 1
  | 30 => 1
  | 31 => 1
  | 32 => 1
  | 33 => 1
  | 34 => 1
  | 35 => 1
  | 36 => 1
  | 37 => 1
  | 38 => 1
  | 39 => 1
  | 40 => 1
  | 41 => 1
  | 42 => 1
  | 43 => 1
  | _ => 0
/-- how long the arrays of a kind are -/
def qa_ln (y : qa_L) (k : Nat) : Nat := match k with
  | 1 => qa_n y
  | 3 => qa_n y
  | 4 => qa_n y
  | 5 => qa_n y
  | 6 => qa_n y
  | 7 => 4
  | 9 => qa_h y
  | 10 => qa_m y + 1
  | 11 => qa_n y
  | 12 => 4
  | 14 => 12
  | 15 => 12
  | 17 => 6
  | 18 => 4
  | 19 => qa_n y
  | 20 => qa_n y
  | 21 => qa_n y
  | 23 => 7
  | 24 => 7
  | 25 => 7
  | 26 => 7
  | 27 => 7
  | 28 => 7
  | 29 => 7
  | 30 => 7
  | 31 => 7
  | 32 => 32
  | 33 => 56
  | 34 => 49
  | 35 => 49
  | 36 => 49
  | 37 => 48
  | 38 => 48
  | 39 => 4
  | 40 => 4
  | 41 => 4
  | 42 => 6
  | 43 => 16
  | _ => 0
/-- kinds of objects: place of the class, fields -/
def qa_cls (k : Nat) : Option (Nat × Nat) := match k with
  | 0 => some (0, 12)
  | 2 => some (1, 15)
  | 8 => some (2, 8)
  | 13 => some (3, 5)
  | 16 => some (4, 2)
  | 22 => some (5, 27)
  | _ => none
/-- kinds of arrays of references: number of the array class, contents -/
def qa_ref (y : qa_L) (k : Nat) : Option (Nat × (Nat → Option Nat)) := match k with
  | 1 => some (1, fun j => some (qa_a y 2 j))
  | 10 => some (3, fun j => some (qa_a y 11 j))
  | 12 => some (2, fun j => some (qa_a y 13 j))
  | _ => none
/-- fields that never change behind the constructors -/
def qa_cst (y : qa_L) (k i f : Nat) : Option Value := match k, f with
  | 0, 0 => some (.int (nI (qa_n y)))
  | 0, 1 => some (.int (nI (qa_m y)))
  | 0, 2 => some (.int (qa_d y))
  | 0, 3 => some (.ref (qa_a y 1 0))
  | 0, 4 => some (.ref (qa_a y 8 0))
  | 0, 5 => some (.ref (qa_a y 12 0))
  | 0, 6 => some (.ref (qa_a y 16 0))
  | 0, 7 => some (.ref (qa_a y 18 0))
  | 0, 8 => some (.ref (qa_a y 19 0))
  | 0, 9 => some (.ref (qa_a y 20 0))
  | 0, 10 => some (.ref (qa_a y 21 0))
  | 2, 0 => some (.int (nI i))
  | 2, 1 => some (.ref (qa_a y 3 i))
  | 2, 2 => some (.ref (qa_a y 4 i))
  | 2, 3 => some (.ref (qa_a y 5 i))
  | 2, 4 => some (.ref (qa_a y 6 i))
  | 2, 5 => some (.ref (qa_a y 7 i))
  | 8, 0 => some (.ref (qa_a y 1 0))
  | 8, 1 => some (.int (nI (qa_m y)))
  | 8, 2 => some (.ref (qa_a y 9 0))
  | 8, 3 => some (.ref (qa_a y 10 0))
  | 13, 0 => some (.ref (qa_a y 14 i))
  | 13, 1 => some (.ref (qa_a y 15 i))
  | 16, 0 => some (.ref (qa_a y 17 0))
  | 22, 0 => some (.int (nI (qa_n y)))
  | 22, 1 => some (.int (nI (qa_m y)))
  | 22, 2 => some (.int (qa_d y))
  | 22, 5 => some (.ref (qa_a y 23 0))
  | 22, 6 => some (.ref (qa_a y 24 0))
  | 22, 7 => some (.ref (qa_a y 25 0))
  | 22, 8 => some (.ref (qa_a y 26 0))
  | 22, 9 => some (.ref (qa_a y 27 0))
  | 22, 10 => some (.ref (qa_a y 28 0))
  | 22, 11 => some (.ref (qa_a y 29 0))
  | 22, 12 => some (.ref (qa_a y 30 0))
  | 22, 13 => some (.ref (qa_a y 31 0))
  | 22, 14 => some (.ref (qa_a y 32 0))
  | 22, 15 => some (.ref (qa_a y 33 0))
  | 22, 16 => some (.ref (qa_a y 34 0))
  | 22, 17 => some (.ref (qa_a y 35 0))
  | 22, 18 => some (.ref (qa_a y 36 0))
  | 22, 19 => some (.ref (qa_a y 37 0))
  | 22, 20 => some (.ref (qa_a y 38 0))
  | 22, 21 => some (.ref (qa_a y 39 0))
  | 22, 22 => some (.ref (qa_a y 40 0))
  | 22, 23 => some (.ref (qa_a y 41 0))
  | 22, 24 => some (.ref (qa_a y 42 0))
  | 22, 26 => some (.ref (qa_a y 43 0))
  | _, _ => none
/-- the context of a running method: what the machine and the tables are, and what the heap holds -/
def qa_ok (y : qa_L) : Prop := (∀ k i, i < qa_pr y k → qa_a y k i ∈ qa_As y) ∧ (∀ k i k' i', i < qa_pr y k → i' < qa_pr y k' → qa_a y k i = qa_a y k' i' → k = k' ∧ i = i') ∧ 4 ≤ qa_n y ∧ qa_n y ≤ 7 ∧ 3 * qa_m y < qa_n y ∧ 1 ≤ (qa_d y).toInt ∧ (qa_d y).toInt ≤ 200
def qa_fv (y : qa_L) (v : qa_M) (k i f : Nat) : Value := (qa_cst y k i f).getD (.int (v k i f))
def qa_cell (y : qa_L) (v : qa_M) (k i : Nat) : va_E := match qa_cls k with
  | some q => .inr (q.1, (List.range q.2).map (qa_fv y v k i))
  | none => match qa_ref y k with
    | some q => .inl (qa_c y q.1, (qa_ln y k, .inr (.inr (.inr (.inr q.2)))))
    | none => .inl (qa_c y 0, (qa_ln y k, .inl (v k i)))
theorem qa_cell_o {y : qa_L} {v : qa_M} {k i ci N : Nat} (h : qa_cls k = some (ci, N)) : qa_cell y v k i = .inr (ci, (List.range N).map (qa_fv y v k i)) := by simp [qa_cell, h]
theorem qa_cell_r {y : qa_L} {v : qa_M} {k i t : Nat} {g : Nat → Option Nat} (h : qa_cls k = none) (h2 : qa_ref y k = some (t, g)) : qa_cell y v k i = .inl (qa_c y t, (qa_ln y k, .inr (.inr (.inr (.inr g))))) := by simp [qa_cell, h, h2]
theorem qa_cell_a {y : qa_L} {v : qa_M} {k i : Nat} (h : qa_cls k = none) (h2 : qa_ref y k = none) : qa_cell y v k i = .inl (qa_c y 0, (qa_ln y k, .inl (v k i))) := by simp [qa_cell, h, h2]
theorem qa_cell_n {y : qa_L} {v w : qa_M} {k i : Nat} (h : w k i = v k i) : qa_cell y w k i = qa_cell y v k i := by
  have e : qa_fv y w k i = qa_fv y v k i := by funext f; simp [qa_fv, h]
  simp [qa_cell, h, e]
theorem qa_cell_l (y : qa_L) (v : qa_M) (k i : Nat) (hn : qa_cls k = none) : ∃ t x, qa_cell y v k i = .inl (qa_c y t, (qa_ln y k, x)) ∧ (t = 0 ∨ ∃ g, qa_ref y k = some (t, g)) := by
  cases h : qa_ref y k with
  | none => exact ⟨0, _, qa_cell_a hn h, Or.inl rfl⟩
  | some q => exact ⟨q.1, _, qa_cell_r hn (g := q.2) h, Or.inr ⟨q.2, rfl⟩⟩
/-- the heap holds the memory v in the layout y -/
def qa_P (y : qa_L) (v : qa_M) (H : Heap) : Prop := ∃ g : Nat → va_E, va_P (qa_D y) qa_Cl (va_pl (qa_As y) g) H ∧ va_D (qa_A y) (va_pl (qa_As y) g) ∧ ∀ k i, i < qa_pr y k → g (qa_a y k i) = qa_cell y v k i
def qa_tys (y : qa_L) : List (ClassId × FieldType) := [(qa_c y 0, .int), (qa_c y 1, .object "VotedFrames$Node"), (qa_c y 2, .object "VotedFrames$Task"), (qa_c y 3, .array .int)]
def qa_K (y : qa_L) (U : State) : Prop := qa_ok y ∧ va_K (qa_D y) qa_Cl (qa_tys y) U ∧ ∀ w ∈ qa_Nw, va_Nw w U
def qa_W (y : qa_L) (v : qa_M) (U : State) : Prop := qa_P y v U.heap ∧ qa_K y U
def qa_C (y : qa_L) (v : qa_M) (s : State) (H : Heap) (locs : List Loc) : Prop := qa_P y v H ∧ va_S (qa_A y) s.heap H locs
def qa_E (p : Program) (m : MethodId) (c : Code) (cc : ByteArray) (nL : Nat) (s : State) (args : Array Value) (own : String) (y : qa_L) : Prop := CallFix p m c cc nL s args qa_T own ∧ qa_K y s
theorem qa_K.moved {y : qa_L} {s U : State} (hW : s.WarmedH U.vm) (h : qa_K y s) : qa_K y U := ⟨h.1, va_K.moved hW.alike h.2.1, fun w hw => qa_Nw_moved hW w hw (h.2.2 w hw)⟩
theorem qa_h_lt {y : qa_L} (h : qa_ok y) : qa_h y < 2 ^ 31 := by
  obtain ⟨-, -, h1, h2, h3, -, -⟩ := h
  have hm : qa_m y = 0 ∨ qa_m y = 1 ∨ qa_m y = 2 := by omega
  have hn : qa_n y = 4 ∨ qa_n y = 5 ∨ qa_n y = 6 ∨ qa_n y = 7 := by omega
  unfold qa_h
  rcases hm with e | e | e <;> rcases hn with f | f | f | f <;> rw [e, f] <;> decide
theorem qa_ln_lt {y : qa_L} (h : qa_ok y) (k : Nat) : qa_ln y k < 2 ^ 31 := by
  have hh := qa_h_lt h
  obtain ⟨-, -, h1, h2, h3, -, -⟩ := h
  unfold qa_ln
  split <;> omega
theorem qa_ref_ty {y : qa_L} {k t : Nat} {g : Nat → Option Nat} (h : qa_ref y k = some (t, g)) : ∃ ty, (qa_tys y)[t]? = some (qa_c y t, ty) := by
  unfold qa_ref at h
  split at h
  · cases h; exact ⟨_, rfl⟩
  · cases h; exact ⟨_, rfl⟩
  · cases h; exact ⟨_, rfl⟩
  · cases h
theorem qa_T_good : ∀ w ∈ qa_T, (w.onTables && w.keeps) = true ∨ ∃ ty, w = .arrayClass ty := by
  intro w hw
  have h := (List.mem_filter.mp hw).2
  rcases Bool.or_eq_true _ _ |>.mp h with h | h
  · cases w <;> first | (simp [k2_isCode] at h; done) | exact Or.inl rfl
  · exact good_of_word h
/-- the room of a method at level n -/
def qa_R (n : Nat) : Room := { frames := n, cells := 0, slots := 0, locals := 64 * n }
abbrev qa_ws (x : MethodName) (bytes : ByteArray) (maxL : Nat) (ret : Option FieldType) : List Cond := .code x bytes maxL ret :: qa_T
/-- a method that writes nothing: its answer is r -/
def qa_Pu (l : Launch) (x : MethodName) (bytes : ByteArray) (maxL : Nat) (ret : Option FieldType) (n : Nat) (av : List Value) (Pre : State → Prop) (r : Int32) : Prop :=
  Met l x (qa_ws x bytes maxL ret) (qa_R n) (va_Pc av Pre) (QcRead r) 0 0 (fun _ => False)
/-- a method that changes the memory, and answers an int -/
def qa_Mi (l : Launch) (x : MethodName) (bytes : ByteArray) (maxL : Nat) (ret : Option FieldType) (n : Nat) (av : List Value) (y : qa_L) (v : qa_M) (post : Int32 → qa_M → Prop) : Prop :=
  Met l x (qa_ws x bytes maxL ret) (qa_R n) (va_Pc av (qa_W y v)) (va_Qi post (fun u t => qa_W y u t) (qa_A y)) 0 0 (qa_A y)
/-- a method that changes the memory, and answers nothing -/
def qa_Mv (l : Launch) (x : MethodName) (bytes : ByteArray) (maxL : Nat) (n : Nat) (av : List Value) (y : qa_L) (v : qa_M) (post : qa_M → Prop) : Prop :=
  Met l x (qa_ws x bytes maxL none) (qa_R n) (va_Pc av (qa_W y v)) (va_Qv post (fun u t => qa_W y u t) (qa_A y)) 0 0 (qa_A y)
theorem qa_K.same {y : qa_L} {s U : State} (h : s.vm = U.vm) (hK : qa_K y s) : qa_K y U := ⟨hK.1, va_K.moved (by rw [h]; exact Vm.Alike.refl _) hK.2.1, fun w hw => va_Nw.same (qa_Nw_tabs w hw) h (hK.2.2 w hw)⟩
theorem qa_W.blind {av : List Value} {y : qa_L} {v : qa_M} : FrameBlind (va_Pc av (qa_W y v)) := fun _ U _ _ h => ⟨h.1, h.2.1, qa_K.same (s := U) rfl h.2.2⟩
theorem qa_true.blind {av : List Value} : FrameBlind (va_Pc av (fun _ => True)) := fun _ _ _ _ h => ⟨h.1, trivial⟩
section QA
variable {p : Program} {l : Launch} {e : Env} {R : Room} {s : State} {m : MethodId} {args : Array Value} {below : List Frame} {meth : Method} {c : Code} {H : Heap} {locs : List Loc} {cells slots : Nat} {Q : State → Prop}
variable {cc : ByteArray} {pc nL : Nat} {ls : Array Slot} {rest : List Value} {own : String} {y : qa_L} {v : qa_M} {k i : Nat}
theorem qa_at (hK : qa_K y s) (hC : qa_C y v s H locs) (hi : i < qa_pr y k) : ∃ (g : Nat → va_E) (q : Nat), va_P (qa_D y) qa_Cl (va_pl (qa_As y) g) H ∧ va_D (qa_A y) (va_pl (qa_As y) g) ∧ (∀ k i, i < qa_pr y k → g (qa_a y k i) = qa_cell y v k i) ∧ (va_pl (qa_As y) g)[q]? = some (qa_a y k i, g (qa_a y k i)) := by
  obtain ⟨⟨g, hP, hD, hg⟩, hS⟩ := hC
  obtain ⟨q, hq⟩ := va_pl_get (X := []) (f := g) (hK.1.1 k i hi)
  exact ⟨g, q, hP, hD, hg, hq⟩
/-- behind a write to one cell -/
theorem qa_wrote (hK : qa_K y s) {g : Nat → va_E} {q : Nat} (hD : va_D (qa_A y) (va_pl (qa_As y) g)) (hg : ∀ k i, i < qa_pr y k → g (qa_a y k i) = qa_cell y v k i) (hi : i < qa_pr y k) (hq : (va_pl (qa_As y) g)[q]? = some (qa_a y k i, g (qa_a y k i))) {f : Nat} {x : Int32} {n : va_E} (hn : n = qa_cell y (qa_up v k i f x) k i) {H1 : Heap} {locs1 : List Loc} (hP1 : va_P (qa_D y) qa_Cl ((va_pl (qa_As y) g).set q (qa_a y k i, n)) H1) (hD1 : va_D (qa_A y) ((va_pl (qa_As y) g).set q (qa_a y k i, n))) (hS1 : va_S (qa_A y) s.heap H1 locs1) : qa_C y (qa_up v k i f x) s H1 locs1 := by
  have hs := va_pl_set (X := []) (e := n) hD (hK.1.1 k i hi) hq
  have hs' : (va_pl (qa_As y) g).set q (qa_a y k i, n) = va_pl (qa_As y) (va_up g (qa_a y k i) n) := hs
  rw [hs'] at hP1 hD1
  refine ⟨⟨_, hP1, hD1, fun k' i' hi' => ?_⟩, hS1⟩
  by_cases he : qa_a y k' i' = qa_a y k i
  · obtain ⟨rfl, rfl⟩ := hK.1.2.1 _ _ _ _ hi' hi he
    rw [va_up_self, hn]
  · rw [va_up_ne _ _ he, hg k' i' hi']
    exact (qa_cell_n (qa_up_ii (fun (h : k' = k ∧ i' = i) => he (by rw [h.1, h.2])))).symm
theorem qa_get {C : String} {T : u_T} {N ci index f : Nat} (E : qa_E p m c cc nL s args own y) (hC : qa_C y v s H locs) (hi : i < qa_pr y k) (hk : qa_cls k = some (ci, N)) (hc : qa_Cl[ci]? = some (C, T, N)) (hf : f < N) (hl : Cond.fieldLink own index C (T f).2.1 (T f).2.2.1 ∈ qa_T) (hT : (T f).1 = C) {val : Value} (hv : qa_fv y v k i f = val) (hdg : decode cc pc = .ok (.getfield index, 3))
    (kk : W p l e R s m args below meth c H locs cells slots Q (F0 m (pc + 3) ls (val :: rest))) : W p l e R s m args below meth c H locs cells slots Q (F0 m pc ls (.ref (qa_a y k i) :: rest)) := by
  obtain ⟨⟨hx, hb, hml, hown, hts⟩, hK⟩ := E
  obtain ⟨g, q, hP, hD, hg, hq⟩ := qa_at hK hC hi
  rw [hg k i hi, qa_cell_o hk] at hq
  refine va_get hx hb hts (qa_in ci hc) hown hK.2.1 hP q hq hc f hf (hts _ hl) (fun x h => by rw [hT] at h; exact h) (v := val) ?_ hdg kk
  rw [List.getElem?_map, List.getElem?_range hf, Option.map_some, hv]
theorem qa_fv_put {f N : Nat} {x : Int32} (h : qa_cst y k i f = none) (hf : f < N) : ((List.range N).map (qa_fv y v k i)).set f (.int x) = (List.range N).map (qa_fv y (qa_up v k i f x) k i) := by
  apply List.ext_getElem?
  intro j
  by_cases hj : j = f
  · subst hj
    rw [List.getElem?_set_self (by simpa using hf), List.getElem?_map, List.getElem?_range hf]
    simp [qa_fv, h, qa_up]
  · rw [List.getElem?_set_ne (Ne.symm hj), List.getElem?_map, List.getElem?_map]
    by_cases hN : j < N
    · rw [List.getElem?_range hN]
      simp [qa_fv, qa_up, hj]
    · rw [List.getElem?_eq_none (by simpa using hN)]
      rfl
theorem qa_put {C : String} {T : u_T} {N ci index f : Nat} {x : Int32} (E : qa_E p m c cc nL s args own y) (hC : qa_C y v s H locs) (hi : i < qa_pr y k) (hk : qa_cls k = some (ci, N)) (hc : qa_Cl[ci]? = some (C, T, N)) (hf : f < N) (hl : Cond.fieldLink own index C (T f).2.1 (T f).2.2.1 ∈ qa_T) (hT : (T f).1 = C) (hfin : (T f).2.2.2 = false) (hI : (T f).2.2.1 = "I") (hcst : qa_cst y k i f = none) (hdg : decode cc pc = .ok (.putfield index, 3))
    (kk : ∀ (H1 : Heap) (locs1 : List Loc), qa_C y (qa_up v k i f x) s H1 locs1 → W p l e R s m args below meth c H1 locs1 cells slots Q (F0 m (pc + 3) ls rest)) : W p l e R s m args below meth c H locs cells slots Q (F0 m pc ls (.int x :: .ref (qa_a y k i) :: rest)) := by
  obtain ⟨⟨hx, hb, hml, hown, hts⟩, hK⟩ := E
  obtain ⟨g, q, hP, hD, hg, hq⟩ := qa_at hK hC hi
  have hq' := hq
  rw [hg k i hi, qa_cell_o hk] at hq'
  obtain ⟨ty, hty, hnm⟩ := qa_tn ci hc
  refine va_put hx hb hts (qa_in ci hc) ty hty hnm hown hK.2.1 hP hD hC.2 q hq' hc f hf (hts _ hl) (fun x h => by rw [hT] at h; exact h) hfin (ty := .int) (v := .int x) (by rw [hI]; rfl) rfl rfl (by simpa using hf) hdg (fun H1 locs1 hP1 hD1 hS1 => ?_)
  refine kk H1 locs1 (qa_wrote hK hD hg hi hq ?_ hP1 hD1 hS1)
  rw [qa_cell_o hk, qa_fv_put hcst hf]
theorem qa_ild {x : Int32} {j : Nat} (E : qa_E p m c cc nL s args own y) (hC : qa_C y v s H locs) (hi : i < qa_pr y k) (hk : qa_cls k = none) (hr : qa_ref y k = none) (hj : x = nI j) (hlt : j < qa_ln y k) (hdg : decode cc pc = .ok (.iaload, 1))
    (kk : W p l e R s m args below meth c H locs cells slots Q (F0 m (pc + 1) ls (.int (v k i j) :: rest))) : W p l e R s m args below meth c H locs cells slots Q (F0 m pc ls (.int x :: .ref (qa_a y k i) :: rest)) := by
  obtain ⟨⟨hx, hb, hml, hown, hts⟩, hK⟩ := E
  obtain ⟨g, q, hP, hD, hg, hq⟩ := qa_at hK hC hi
  rw [hg k i hi, qa_cell_a hk hr] at hq
  subst hj
  have hb31 := qa_ln_lt hK.1 k
  refine va_iald hx hb hK.2.1 hP q 0 hq rfl (vp_in_nI hlt hb31) hdg ?_
  rw [nI_clamp (by omega)]
  exact kk
theorem qa_ist {x z : Int32} {j : Nat} (E : qa_E p m c cc nL s args own y) (hC : qa_C y v s H locs) (hi : i < qa_pr y k) (hk : qa_cls k = none) (hr : qa_ref y k = none) (hj : x = nI j) (hlt : j < qa_ln y k) (hdg : decode cc pc = .ok (.iastore, 1))
    (kk : ∀ (H1 : Heap) (locs1 : List Loc), qa_C y (qa_up v k i j z) s H1 locs1 → W p l e R s m args below meth c H1 locs1 cells slots Q (F0 m (pc + 1) ls rest)) : W p l e R s m args below meth c H locs cells slots Q (F0 m pc ls (.int z :: .int x :: .ref (qa_a y k i) :: rest)) := by
  obtain ⟨⟨hx, hb, hml, hown, hts⟩, hK⟩ := E
  obtain ⟨g, q, hP, hD, hg, hq⟩ := qa_at hK hC hi
  have hq' := hq
  rw [hg k i hi, qa_cell_a hk hr] at hq'
  subst hj
  have hb31 := qa_ln_lt hK.1 k
  refine va_iast hx hb hK.2.1 hP hD hC.2 q 0 hq' rfl (vp_in_nI hlt hb31) hdg (fun H1 locs1 hP1 hD1 hS1 => ?_)
  refine kk H1 locs1 (qa_wrote hK hD hg hi hq ?_ hP1 hD1 hS1)
  rw [qa_cell_a hk hr, nI_clamp (by omega)]
  congr 4
  funext a
  simp [upd, qa_up]
theorem qa_ald {x : Int32} {j t k2 : Nat} {C : String} {g0 : Nat → Option Nat} (E : qa_E p m c cc nL s args own y) (hC : qa_C y v s H locs) (hi : i < qa_pr y k) (hk : qa_cls k = none) (hr : qa_ref y k = some (t, g0)) (ht : (qa_tys y)[t]? = some (qa_c y t, .object C)) (h2 : g0 j = some (qa_a y k2 j)) (hj : x = nI j) (hlt : j < qa_ln y k) (hdg : decode cc pc = .ok (.aaload, 1))
    (kk : W p l e R s m args below meth c H locs cells slots Q (F0 m (pc + 1) ls (.ref (qa_a y k2 j) :: rest))) : W p l e R s m args below meth c H locs cells slots Q (F0 m pc ls (.int x :: .ref (qa_a y k i) :: rest)) := by
  obtain ⟨⟨hx, hb, hml, hown, hts⟩, hK⟩ := E
  obtain ⟨g, q, hP, hD, hg, hq⟩ := qa_at hK hC hi
  rw [hg k i hi, qa_cell_r hk hr] at hq
  subst hj
  have hb31 := qa_ln_lt hK.1 k
  refine va_aldq hx hb hK.2.1 hP q t hq ht (vp_in_nI hlt hb31) hdg ?_
  rw [nI_clamp (by omega), h2]
  exact kk
theorem qa_ald2 {x : Int32} {j t k2 : Nat} {g0 : Nat → Option Nat} (E : qa_E p m c cc nL s args own y) (hC : qa_C y v s H locs) (hi : i < qa_pr y k) (hk : qa_cls k = none) (hr : qa_ref y k = some (t, g0)) (ht : (qa_tys y)[t]? = some (qa_c y t, .array .int)) (h2 : g0 j = some (qa_a y k2 j)) (hj : x = nI j) (hlt : j < qa_ln y k) (hdg : decode cc pc = .ok (.aaload, 1))
    (kk : W p l e R s m args below meth c H locs cells slots Q (F0 m (pc + 1) ls (.ref (qa_a y k2 j) :: rest))) : W p l e R s m args below meth c H locs cells slots Q (F0 m pc ls (.int x :: .ref (qa_a y k i) :: rest)) := by
  obtain ⟨⟨hx, hb, hml, hown, hts⟩, hK⟩ := E
  obtain ⟨g, q, hP, hD, hg, hq⟩ := qa_at hK hC hi
  rw [hg k i hi, qa_cell_r hk hr] at hq
  subst hj
  have hb31 := qa_ln_lt hK.1 k
  have hat := hP q _ hq
  refine W.aald (v := .ref (qa_a y k2 j)) (ty := .array .int) hx hb hat ((hK.2.1.2 t _ ht).1 _ _) rfl (fun h => by cases h) ?_ ?_ rfl rfl hdg kk
  · show ¬ (nI j < 0 ∨ (arrV _ _ _).slots.size ≤ _)
    rw [arrV_size]
    exact vp_in_nI hlt hb31
  · show (arrV _ _ _).slots[_]? = _
    rw [nI_clamp (by omega), arrV_read _ _ hlt, h2]
    rfl
theorem qa_len {v0 : Int32} (E : qa_E p m c cc nL s args own y) (hC : qa_C y v s H locs) (hi : i < qa_pr y k) (hk : qa_cls k = none) (hv : nI (qa_ln y k) = v0) (hdg : decode cc pc = .ok (.arraylength, 1))
    (kk : W p l e R s m args below meth c H locs cells slots Q (F0 m (pc + 1) ls (.int v0 :: rest))) : W p l e R s m args below meth c H locs cells slots Q (F0 m pc ls (.ref (qa_a y k i) :: rest)) := by
  obtain ⟨⟨hx, hb, hml, hown, hts⟩, hK⟩ := E
  obtain ⟨g, q, hP, hD, hg, hq⟩ := qa_at hK hC hi
  rw [hg k i hi] at hq
  obtain ⟨t, z, he, ht⟩ := qa_cell_l y v k i hk
  rw [he] at hq
  have ht4 : ∃ ty, (qa_tys y)[t]? = some (qa_c y t, ty) := by
    rcases ht with rfl | ⟨g0, h0⟩
    · exact ⟨.int, rfl⟩
    · exact qa_ref_ty h0
  obtain ⟨ty, hty⟩ := ht4
  exact va_alen hx hb hK.2.1 hP q t hq hty hv hdg kk
/-- what a call of an instance method wants of the tables -/
def qa_LV (own C : String) (index : Nat) (x : MethodName) (bytes : ByteArray) (maxL : Nat) (ret : Option FieldType) (n : Nat) : Prop :=
  Cond.methodLink own index x ∈ qa_T ∧ Cond.instanceMethod x ∈ qa_T ∧ Cond.selects C x x ∈ qa_T ∧ Cond.initialized C ∈ qa_T ∧ Cond.code x bytes maxL ret ∈ qa_T ∧ (x.cls = C ∧ x.cls ≠ "java/lang/invoke/MethodHandle" ∧ x.cls ≠ "java/lang/invoke/VarHandle" ∧ (parseMethodDescriptor x.desc).map (fun d => d.parameters.length) = some n)
def qa_LS (own : String) (index : Nat) (x : MethodName) (bytes : ByteArray) (maxL : Nat) (ret : Option FieldType) (n : Nat) : Prop :=
  Cond.methodLink own index x ∈ qa_T ∧ Cond.static x ∈ qa_T ∧ Cond.initialized x.cls ∈ qa_T ∧ Cond.code x bytes maxL ret ∈ qa_T ∧ (x.cls ≠ "java/lang/invoke/MethodHandle" ∧ x.cls ≠ "java/lang/invoke/VarHandle" ∧ (parseMethodDescriptor x.desc).map (fun d => d.parameters.length) = some n)
def qa_LN (own : String) (index : Nat) (x : MethodName) (host : String) (bytes : ByteArray) (maxL : Nat) (ret : Option FieldType) (n : Nat) : Prop :=
  Cond.methodLinkNest own index x host ∈ qa_Nw ∧ Cond.static x ∈ qa_T ∧ Cond.initialized x.cls ∈ qa_T ∧ Cond.code x bytes maxL ret ∈ qa_T ∧ (x.cls ≠ "java/lang/invoke/MethodHandle" ∧ x.cls ≠ "java/lang/invoke/VarHandle" ∧ (parseMethodDescriptor x.desc).map (fun d => d.parameters.length) = some n)
theorem qa_goodV {C : String} {index : Nat} {x : MethodName} {bytes : ByteArray} {maxL n : Nat} {ret : Option FieldType} (h : qa_LV own C index x bytes maxL ret n) : GoodIn qa_T (wsV own index C x (qa_ws x bytes maxL ret)) := by
  intro w hw
  have hm : w ∈ qa_T := by
    rcases List.mem_append.mp hw with hw | hw
    · simp only [List.mem_cons, List.not_mem_nil, or_false] at hw
      rcases hw with rfl | rfl | rfl | rfl
      · exact h.1
      · exact h.2.1
      · exact h.2.2.1
      · exact h.2.2.2.1
    · rcases List.mem_cons.mp hw with rfl | hw
      · exact h.2.2.2.2.1
      · exact hw
  exact ⟨hm, qa_T_good w hm⟩
theorem qa_goodS {index : Nat} {x : MethodName} {bytes : ByteArray} {maxL n : Nat} {ret : Option FieldType} (h : qa_LS own index x bytes maxL ret n) : GoodIn qa_T (va_wsS own index x (qa_ws x bytes maxL ret)) := by
  intro w hw
  have hm : w ∈ qa_T := by
    rcases List.mem_append.mp hw with hw | hw
    · simp only [List.mem_cons, List.not_mem_nil, or_false] at hw
      rcases hw with rfl | rfl | rfl
      · exact h.1
      · exact h.2.1
      · exact h.2.2.1
    · rcases List.mem_cons.mp hw with rfl | hw
      · exact h.2.2.2.1
      · exact hw
  exact ⟨hm, qa_T_good w hm⟩
theorem qa_goodN {x : MethodName} {bytes : ByteArray} {maxL : Nat} {ret : Option FieldType} (h : Cond.code x bytes maxL ret ∈ qa_T) : GoodIn qa_T (qa_ws x bytes maxL ret) := by
  intro w hw
  have hm : w ∈ qa_T := by
    rcases List.mem_cons.mp hw with rfl | hw
    · exact h
    · exact hw
  exact ⟨hm, qa_T_good w hm⟩
/-- the receiver -/
theorem qa_recv {C : String} {T : u_T} {N ci : Nat} (hK : qa_K y s) (hC : qa_C y v s H locs) (hi : i < qa_pr y k) (hk : qa_cls k = some (ci, N)) (hc : qa_Cl[ci]? = some (C, T, N)) : ∃ cell : Cell, H[qa_a y k i]? = some cell ∧ cell.vm.isStatics = false ∧ s.vm.findClass C = some cell.cls := by
  obtain ⟨g, q, hP, hD, hg, hq⟩ := qa_at hK hC hi
  rw [hg k i hi, qa_cell_o hk] at hq
  exact va_recv hK.2.1 hP hc hq
variable {x : MethodName} {bytes : ByteArray} {maxL n index lv : Nat} {ret : Option FieldType} {As st0 : List Value}
/-- rooms -/
def qa_fit (R : Room) (cells slots lv maxL : Nat) : Prop := lv + 1 ≤ R.frames ∧ 8 + (maxL + 11) + 64 * lv ≤ R.locals ∧ cells ≤ R.cells ∧ slots ≤ R.slots
theorem qa_pV {C : String} {T : u_T} {N ci : Nat} {r : Int32} (E : qa_E p m c cc nL s args own y) (hC : qa_C y v s H locs) (hM : qa_Pu l x bytes maxL ret lv (.ref (qa_a y k i) :: As) (qa_W y v) r) (hi : i < qa_pr y k) (hk : qa_cls k = some (ci, N)) (hc : qa_Cl[ci]? = some (C, T, N)) (L : qa_LV own C index x bytes maxL ret n) (hf : qa_fit R cells slots lv maxL) (hn : As.length = n) (hz : ls.size = nL) (hst : st0 = As.reverse ++ .ref (qa_a y k i) :: rest) (hr : (rest.map fun v => v.category).sum ≤ 8) (hdg : decode cc pc = .ok (.invokevirtual index, 3))
    (kk : W p l e R s m args below meth c H locs cells slots Q (F0 m (pc + 3) ls (.int r :: rest))) : W p l e R s m args below meth c H locs cells slots Q (F0 m pc ls st0) := by
  have run := W.runV (g := F0 m pc ls st0) (below := below) (e := e) (meth := meth) (R := R) (locs := locs) (cells := cells) (slots := slots) (rest := rest) E.1 hM (cwV n E.1.2.2.2.2 (qa_goodV L) rfl rfl rfl L.2.2.2.2.2 ⟨hf.1, hf.2.1⟩)
    ⟨qa_W.blind, qa_recv E.2 hC hi hk hc, fun U hU hW => ⟨rfl, by rw [hU]; exact hC.1, E.2.moved hW⟩⟩ rfl hn hz hst (lv_room hr) hdg ⟨hf.2.2.1, hf.2.2.2⟩
  exact W.callR run kk
theorem qa_pS {r : Int32} (E : qa_E p m c cc nL s args own y) (hC : qa_C y v s H locs) (hM : qa_Pu l x bytes maxL ret lv As (qa_W y v) r) (L : qa_LS own index x bytes maxL ret n) (hf : qa_fit R cells slots lv maxL) (hn : As.length = n) (hz : ls.size = nL) (hst : st0 = As.reverse ++ rest) (hr : (rest.map fun v => v.category).sum ≤ 8) (hdg : decode cc pc = .ok (.invokestatic index, 3))
    (kk : W p l e R s m args below meth c H locs cells slots Q (F0 m (pc + 3) ls (.int r :: rest))) : W p l e R s m args below meth c H locs cells slots Q (F0 m pc ls st0) := by
  have run := W.runS (g := F0 m pc ls st0) (below := below) (e := e) (meth := meth) (R := R) (locs := locs) (cells := cells) (slots := slots) (rest := rest) (H := H) E.1 hM (va_cwS n E.1.2.2.2.2 (qa_goodS L) rfl rfl rfl L.2.2.2.2 ⟨hf.1, hf.2.1⟩)
    ⟨qa_W.blind, fun U hU hW => ⟨rfl, by rw [hU]; exact hC.1, E.2.moved hW⟩⟩ rfl hn hz hst (lv_room hr) hdg ⟨hf.2.2.1, hf.2.2.2⟩
  exact W.callR run kk
/-- a static method that looks at its numbers alone -/
theorem qa_pT {r : Int32} (E : CallFix p m c cc nL s args qa_T own) (hM : qa_Pu l x bytes maxL ret lv As (fun _ => True) r) (L : qa_LS own index x bytes maxL ret n) (hf : qa_fit R cells slots lv maxL) (hn : As.length = n) (hz : ls.size = nL) (hst : st0 = As.reverse ++ rest) (hr : (rest.map fun v => v.category).sum ≤ 8) (hdg : decode cc pc = .ok (.invokestatic index, 3))
    (kk : W p l e R s m args below meth c H locs cells slots Q (F0 m (pc + 3) ls (.int r :: rest))) : W p l e R s m args below meth c H locs cells slots Q (F0 m pc ls st0) := by
  have run := W.runS (g := F0 m pc ls st0) (below := below) (e := e) (meth := meth) (R := R) (locs := locs) (cells := cells) (slots := slots) (rest := rest) (H := H) E hM (va_cwS n E.2.2.2.2 (qa_goodS L) rfl rfl rfl L.2.2.2.2 ⟨hf.1, hf.2.1⟩)
    ⟨qa_true.blind, fun U hU hW => ⟨rfl, trivial⟩⟩ rfl hn hz hst (lv_room hr) hdg ⟨hf.2.2.1, hf.2.2.2⟩
  exact W.callR run kk
theorem qa_pN {host : String} {r : Int32} (E : qa_E p m c cc nL s args own y) (hM : qa_Pu l x bytes maxL ret lv As (fun _ => True) r) (L : qa_LN own index x host bytes maxL ret n) (hf : qa_fit R cells slots lv maxL) (hn : As.length = n) (hz : ls.size = nL) (hst : st0 = As.reverse ++ rest) (hr : (rest.map fun v => v.category).sum ≤ 8) (hdg : decode cc pc = .ok (.invokestatic index, 3))
    (kk : W p l e R s m args below meth c H locs cells slots Q (F0 m (pc + 3) ls (.int r :: rest))) : W p l e R s m args below meth c H locs cells slots Q (F0 m pc ls st0) := by
  have hts := E.1.2.2.2.2
  have run := va_runSN (g := F0 m pc ls st0) (below := below) (e := e) (meth := meth) (R := R) (locs := locs) (cells := cells) (slots := slots) (rest := rest) (H := H) E.1 hM ⟨va_cnB (host := host) (Ts := qa_T) (R := R) n hts (qa_goodN L.2.2.2.1) rfl rfl rfl (E.2.2.2 _ L.1) (hts _ L.2.2.1) L.2.2.2.2 ⟨hf.1, hf.2.1⟩, hts _ L.2.1, trivial⟩
    ⟨qa_true.blind, fun U hU hW => ⟨rfl, trivial⟩⟩ rfl hn hz hst (lv_room hr) hdg ⟨hf.2.2.1, hf.2.2.2⟩
  exact W.callR run.run kk
/-- the same over the memory -/
theorem qa_pNW {host : String} {r : Int32} (E : qa_E p m c cc nL s args own y) (hC : qa_C y v s H locs) (hM : qa_Pu l x bytes maxL ret lv As (qa_W y v) r) (L : qa_LN own index x host bytes maxL ret n) (hf : qa_fit R cells slots lv maxL) (hn : As.length = n) (hz : ls.size = nL) (hst : st0 = As.reverse ++ rest) (hr : (rest.map fun v => v.category).sum ≤ 8) (hdg : decode cc pc = .ok (.invokestatic index, 3))
    (kk : W p l e R s m args below meth c H locs cells slots Q (F0 m (pc + 3) ls (.int r :: rest))) : W p l e R s m args below meth c H locs cells slots Q (F0 m pc ls st0) := by
  have hts := E.1.2.2.2.2
  have run := va_runSN (g := F0 m pc ls st0) (below := below) (e := e) (meth := meth) (R := R) (locs := locs) (cells := cells) (slots := slots) (rest := rest) (H := H) E.1 hM ⟨va_cnB (host := host) (Ts := qa_T) (R := R) n hts (qa_goodN L.2.2.2.1) rfl rfl rfl (E.2.2.2 _ L.1) (hts _ L.2.2.1) L.2.2.2.2 ⟨hf.1, hf.2.1⟩, hts _ L.2.1, trivial⟩
    ⟨qa_W.blind, fun U hU hW => ⟨rfl, by rw [hU]; exact hC.1, E.2.moved hW⟩⟩ rfl hn hz hst (lv_room hr) hdg ⟨hf.2.2.1, hf.2.2.2⟩
  exact W.callR run.run kk
/-- a call that changes the memory -/
theorem qa_mV {C : String} {T : u_T} {N ci : Nat} {post : Int32 → qa_M → Prop} (E : qa_E p m c cc nL s args own y) (hC : qa_C y v s H locs) (hM : qa_Mi l x bytes maxL ret lv (.ref (qa_a y k i) :: As) y v post) (hi : i < qa_pr y k) (hk : qa_cls k = some (ci, N)) (hc : qa_Cl[ci]? = some (C, T, N)) (L : qa_LV own C index x bytes maxL ret n) (hf : qa_fit R cells slots lv maxL) (hn : As.length = n) (hz : ls.size = nL) (hst : st0 = As.reverse ++ .ref (qa_a y k i) :: rest) (hr : (rest.map fun v => v.category).sum ≤ 8) (hdg : decode cc pc = .ok (.invokevirtual index, 3))
    (kk : ∀ (r : Int32) (u : qa_M) (H1 : Heap) (locs1 : List Loc), post r u → qa_C y u s H1 locs1 → W p l e R s m args below meth c H1 locs1 cells slots Q (F0 m (pc + 3) ls (.int r :: rest))) : W p l e R s m args below meth c H locs cells slots Q (F0 m pc ls st0) := by
  refine va_calli (va_runV (g := F0 m pc ls st0) (rest := rest) E.1 hM (cwV n E.1.2.2.2.2 (qa_goodV L) rfl rfl rfl L.2.2.2.2.2 ⟨hf.1, hf.2.1⟩)
    ⟨qa_W.blind, qa_recv E.2 hC hi hk hc, fun U hU hW => ⟨rfl, by rw [hU]; exact hC.1, E.2.moved hW⟩⟩ rfl hn hz hst (lv_room hr) hdg ⟨hf.2.2.1, hf.2.2.2⟩) hC.2 (fun q _ h => h) (fun q h => h) (fun r u t H1 locs1 ht hvm hp hB hz1 hk1 hS1 => ?_)
  exact kk r u H1 locs1 hp ⟨by rw [← ht]; exact hB.1, hS1⟩
theorem qa_mVv {C : String} {T : u_T} {N ci : Nat} {post : qa_M → Prop} (E : qa_E p m c cc nL s args own y) (hC : qa_C y v s H locs) (hM : qa_Mv l x bytes maxL lv (.ref (qa_a y k i) :: As) y v post) (hi : i < qa_pr y k) (hk : qa_cls k = some (ci, N)) (hc : qa_Cl[ci]? = some (C, T, N)) (L : qa_LV own C index x bytes maxL none n) (hf : qa_fit R cells slots lv maxL) (hn : As.length = n) (hz : ls.size = nL) (hst : st0 = As.reverse ++ .ref (qa_a y k i) :: rest) (hr : (rest.map fun v => v.category).sum ≤ 8) (hdg : decode cc pc = .ok (.invokevirtual index, 3))
    (kk : ∀ (u : qa_M) (H1 : Heap) (locs1 : List Loc), post u → qa_C y u s H1 locs1 → W p l e R s m args below meth c H1 locs1 cells slots Q (F0 m (pc + 3) ls rest)) : W p l e R s m args below meth c H locs cells slots Q (F0 m pc ls st0) := by
  refine va_callv (va_runV (g := F0 m pc ls st0) (rest := rest) E.1 hM (cwV n E.1.2.2.2.2 (qa_goodV L) rfl rfl rfl L.2.2.2.2.2 ⟨hf.1, hf.2.1⟩)
    ⟨qa_W.blind, qa_recv E.2 hC hi hk hc, fun U hU hW => ⟨rfl, by rw [hU]; exact hC.1, E.2.moved hW⟩⟩ rfl hn hz hst (lv_room hr) hdg ⟨hf.2.2.1, hf.2.2.2⟩) hC.2 (fun q _ h => h) (fun q h => h) (fun u t H1 locs1 ht hvm hp hB hz1 hk1 hS1 => ?_)
  exact kk u H1 locs1 hp ⟨by rw [← ht]; exact hB.1, hS1⟩
/-- returns -/
theorem qa_iret {r z : Int32} (hx : p.tables.exec = Jvm.exec) (hb : c.code = cc) (hr : meth.sig.returnType = some .int) (hlocks : meth.locks = false) (he : z = r) (hdg : decode cc pc = .ok (.ireturn, 1)) : W p l e R s m args below meth c s.heap [] cells slots (MQ below (QcRead r) args s cells slots (fun _ => False)) (F0 m pc ls [.int z]) := by
  subst he
  exact W.iret hx hb hr (fun t ht _ => ⟨rfl, ht⟩) (fun q h => by cases h) hdg
theorem qa_zret {r z : Int32} (hx : p.tables.exec = Jvm.exec) (hb : c.code = cc) (hr : meth.sig.returnType = some .boolean) (hlocks : meth.locks = false) (he : z = r) (hn : narrow .boolean (.int z) = .int z) (hdg : decode cc pc = .ok (.ireturn, 1)) : W p l e R s m args below meth c s.heap [] cells slots (MQ below (QcRead r) args s cells slots (fun _ => False)) (F0 m pc ls [.int z]) := by
  subst he
  exact W.zret hx hb hr hn (fun t ht _ => ⟨rfl, ht⟩) (fun q h => by cases h) hdg
theorem qa_mret {post : Int32 → qa_M → Prop} {z : Int32} (E : qa_E p m c cc nL s args own y) (hC : qa_C y v s H locs) (hr : meth.sig.returnType = some .int) (hlocks : meth.locks = false) (he : post z v) (hdg : decode cc pc = .ok (.ireturn, 1)) : W p l e R s m args below meth c H locs cells slots (MQ below (va_Qi post (fun u t => qa_W y u t) (qa_A y)) args s cells slots (qa_A y)) (F0 m pc ls [.int z]) :=
  W.iret E.1.1 E.1.2.1 hr (fun t ht hW => ⟨⟨z, v, rfl, he, by rw [ht]; exact hC.1, E.2.moved hW⟩, hC.2.F ht⟩) hC.2.2.2 hdg
theorem qa_mzret {post : Int32 → qa_M → Prop} {z : Int32} (E : qa_E p m c cc nL s args own y) (hC : qa_C y v s H locs) (hr : meth.sig.returnType = some .boolean) (hlocks : meth.locks = false) (he : post z v) (hn : narrow .boolean (.int z) = .int z) (hdg : decode cc pc = .ok (.ireturn, 1)) : W p l e R s m args below meth c H locs cells slots (MQ below (va_Qi post (fun u t => qa_W y u t) (qa_A y)) args s cells slots (qa_A y)) (F0 m pc ls [.int z]) :=
  W.zret E.1.1 E.1.2.1 hr hn (fun t ht hW => ⟨⟨z, v, rfl, he, by rw [ht]; exact hC.1, E.2.moved hW⟩, hC.2.F ht⟩) hC.2.2.2 hdg
theorem qa_mvret {post : qa_M → Prop} (E : qa_E p m c cc nL s args own y) (hC : qa_C y v s H locs) (hr : meth.sig.returnType = none) (hlocks : meth.locks = false) (he : post v) (hdg : decode cc pc = .ok (.return_, 1)) : W p l e R s m args below meth c H locs cells slots (MQ below (va_Qv post (fun u t => qa_W y u t) (qa_A y)) args s cells slots (qa_A y)) (F0 m pc ls []) :=
  W.vret E.1.1 E.1.2.1 hr (fun t ht hW => ⟨⟨v, rfl, he, by rw [ht]; exact hC.1, E.2.moved hW⟩, hC.2.F ht⟩) hC.2.2.2 hdg
end QA
/-! a method's beginning -/
theorem qa_ofPu {l : Launch} {x : MethodName} {bytes : ByteArray} {maxL n : Nat} {ret : Option FieldType} {av : List Value} {Pre : State → Prop} {r : Int32} (hy : plainFor x = true) (hls : (lg_sl av).length ≤ maxL)
    (body : ∀ (p : Program) (e : Env) (s : State) (m : MethodId) (below : List Frame) (meth : Method) (c : Code) (ls : Array Slot), CallFix p m c bytes maxL s av.toArray qa_T x.cls → meth.sig.returnType = ret → meth.locks = false → Pre s → lv_has ls maxL (lv_args 0 av) → W p l e (qa_R n) s m av.toArray below meth c s.heap [] 0 0 (MQ below (QcRead r) av.toArray s 0 0 (fun _ => False)) (F0 m 0 ls [])) : qa_Pu l x bytes maxL ret n av Pre r := by
  refine va_MetF (cc := bytes) (maxL := maxL) (ret := ret) hy rfl ?_
  intro p e s m args below meth c s₁ B hml hv
  obtain ⟨rfl, hpre⟩ := hv
  have hl := lv_entry av (n := maxL) hls
  rw [lg_entry_eq]
  exact body p e s m below meth c _ ⟨B.exec, B.bytes, hml, findClass_of_methodNamed B.named, fun w hw => atoms_spec (ws := qa_ws x bytes maxL ret) B.pre w (List.mem_cons_of_mem _ hw)⟩ B.returns B.notSynchronized hpre hl
theorem qa_ofMi {l : Launch} {x : MethodName} {bytes : ByteArray} {maxL n : Nat} {ret : Option FieldType} {av : List Value} {y : qa_L} {v : qa_M} {post : Int32 → qa_M → Prop} (hy : plainFor x = true) (hls : (lg_sl av).length ≤ maxL)
    (body : ∀ (p : Program) (e : Env) (s : State) (m : MethodId) (below : List Frame) (meth : Method) (c : Code) (ls : Array Slot), qa_E p m c bytes maxL s av.toArray x.cls y → meth.sig.returnType = ret → meth.locks = false → qa_C y v s s.heap [] → lv_has ls maxL (lv_args 0 av) → W p l e (qa_R n) s m av.toArray below meth c s.heap [] 0 0 (MQ below (va_Qi post (fun u t => qa_W y u t) (qa_A y)) av.toArray s 0 0 (qa_A y)) (F0 m 0 ls [])) : qa_Mi l x bytes maxL ret n av y v post := by
  refine va_MetF (cc := bytes) (maxL := maxL) (ret := ret) hy rfl ?_
  intro p e s m args below meth c s₁ B hml hv
  obtain ⟨rfl, hpre⟩ := hv
  have hl := lv_entry av (n := maxL) hls
  rw [lg_entry_eq]
  exact body p e s m below meth c _ ⟨⟨B.exec, B.bytes, hml, findClass_of_methodNamed B.named, fun w hw => atoms_spec (ws := qa_ws x bytes maxL ret) B.pre w (List.mem_cons_of_mem _ hw)⟩, hpre.2⟩ B.returns B.notSynchronized ⟨hpre.1, va_S.rf⟩ hl
theorem qa_ofMv {l : Launch} {x : MethodName} {bytes : ByteArray} {maxL n : Nat} {av : List Value} {y : qa_L} {v : qa_M} {post : qa_M → Prop} (hy : plainFor x = true) (hls : (lg_sl av).length ≤ maxL)
    (body : ∀ (p : Program) (e : Env) (s : State) (m : MethodId) (below : List Frame) (meth : Method) (c : Code) (ls : Array Slot), qa_E p m c bytes maxL s av.toArray x.cls y → meth.sig.returnType = none → meth.locks = false → qa_C y v s s.heap [] → lv_has ls maxL (lv_args 0 av) → W p l e (qa_R n) s m av.toArray below meth c s.heap [] 0 0 (MQ below (va_Qv post (fun u t => qa_W y u t) (qa_A y)) av.toArray s 0 0 (qa_A y)) (F0 m 0 ls [])) : qa_Mv l x bytes maxL n av y v post := by
  refine va_MetF (cc := bytes) (maxL := maxL) (ret := none) hy rfl ?_
  intro p e s m args below meth c s₁ B hml hv
  obtain ⟨rfl, hpre⟩ := hv
  have hl := lv_entry av (n := maxL) hls
  rw [lg_entry_eq]
  exact body p e s m below meth c _ ⟨⟨B.exec, B.bytes, hml, findClass_of_methodNamed B.named, fun w hw => atoms_spec (ws := qa_ws x bytes maxL none) B.pre w (List.mem_cons_of_mem _ hw)⟩, hpre.2⟩ B.returns B.notSynchronized ⟨hpre.1, va_S.rf⟩ hl
