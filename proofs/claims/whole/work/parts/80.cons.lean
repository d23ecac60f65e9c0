/-! the making of the objects: their cells stand one behind the other, from the place of the first on -/
def qc_off (n m k i : Nat) : Nat := match k with
  | 0 => 0
  | 1 => 1
  | 2 => 2 + 6 * i
  | 7 => 3 + 6 * i
  | 3 => 4 + 6 * i
  | 4 => 5 + 6 * i
  | 5 => 6 + 6 * i
  | 6 => 7 + 6 * i
  | 8 => 2 + 6 * n
  | 9 => 3 + 6 * n
  | 10 => 4 + 6 * n
  | 11 => 5 + 6 * n + i
  | 12 => 6 + 6 * n + m
  | 13 => 7 + 6 * n + m + 3 * i
  | 14 => 8 + 6 * n + m + 3 * i
  | 15 => 9 + 6 * n + m + 3 * i
  | k => 3 + 6 * n + m + k
def qc_nk (r : Nat) : Nat := match r with
  | 0 => 2
  | 1 => 7
  | 2 => 3
  | 3 => 4
  | 4 => 5
  | _ => 6
def qc_dec (n m q : Nat) : Nat × Nat :=
  if q < 2 then (q, 0)
  else if q < 2 + 6 * n then (qc_nk ((q - 2) % 6), (q - 2) / 6)
  else if q < 5 + 6 * n then (q - 6 * n + 6, 0)
  else if q < 6 + 6 * n + m then (11, q - (5 + 6 * n))
  else if q < 7 + 6 * n + m then (12, 0)
  else if q < 19 + 6 * n + m then (13 + (q - (7 + 6 * n + m)) % 3, (q - (7 + 6 * n + m)) / 3)
  else (q - (3 + 6 * n + m), 0)
theorem qc_dec_n {n m i r : Nat} (hi : i < n) (hr : r < 6) {q : Nat} (hq : q = 2 + 6 * i + r) : qc_dec n m q = (qc_nk r, i) := by
  subst hq
  unfold qc_dec
  rw [if_neg (by omega), if_pos (by omega), show (2 + 6 * i + r - 2) % 6 = r by omega, show (2 + 6 * i + r - 2) / 6 = i by omega]
theorem qc_dec_t {n m i r : Nat} (hi : i < 4) (hr : r < 3) {q : Nat} (hq : q = 7 + 6 * n + m + 3 * i + r) : qc_dec n m q = (13 + r, i) := by
  subst hq
  unfold qc_dec
  rw [if_neg (by omega), if_neg (by omega), if_neg (by omega), if_neg (by omega), if_neg (by omega), if_pos (by omega), show (7 + 6 * n + m + 3 * i + r - (7 + 6 * n + m)) % 3 = r by omega, show (7 + 6 * n + m + 3 * i + r - (7 + 6 * n + m)) / 3 = i by omega]
theorem qc_dec_r {n m r : Nat} (hr : r < 3) {q : Nat} (hq : q = 2 + 6 * n + r) : qc_dec n m q = (8 + r, 0) := by
  subst hq
  unfold qc_dec
  rw [if_neg (by omega), if_neg (by omega), if_pos (by omega), show 2 + 6 * n + r - 6 * n + 6 = 8 + r by omega]
theorem qc_dec_l {n m i : Nat} (hi : i < m + 1) {q : Nat} (hq : q = 5 + 6 * n + i) : qc_dec n m q = (11, i) := by
  subst hq
  unfold qc_dec
  rw [if_neg (by omega), if_neg (by omega), if_neg (by omega), if_pos (by omega), show 5 + 6 * n + i - (5 + 6 * n) = i by omega]
theorem qc_dec_12 {n m : Nat} {q : Nat} (hq : q = 6 + 6 * n + m) : qc_dec n m q = (12, 0) := by
  subst hq
  unfold qc_dec
  rw [if_neg (by omega), if_neg (by omega), if_neg (by omega), if_neg (by omega), if_pos (by omega)]
theorem qc_dec_h {n m k : Nat} (hk : 16 ≤ k) {q : Nat} (hq : q = 3 + 6 * n + m + k) : qc_dec n m q = (k, 0) := by
  subst hq
  unfold qc_dec
  rw [if_neg (by omega), if_neg (by omega), if_neg (by omega), if_neg (by omega), if_neg (by omega), if_neg (by omega), show 3 + 6 * n + m + k - (3 + 6 * n + m) = k by omega]
theorem qc_dec_off {y : qa_L} {k i : Nat} (hi : i < qa_pr y k) : qc_dec (qa_n y) (qa_m y) (qc_off (qa_n y) (qa_m y) k i) = (k, i) := by
  generalize hn : qa_n y = n
  generalize hm : qa_m y = m
  unfold qa_pr at hi
  rw [hn, hm] at hi
  split at hi
  case h_1 => obtain rfl : i = 0 := by omega
              rfl
  case h_2 => obtain rfl : i = 0 := by omega
              rfl
  case h_3 => exact qc_dec_n (r := 0) hi (by decide) rfl
  case h_4 => exact qc_dec_n (r := 2) hi (by decide) (by simp only [qc_off]; omega)
  case h_5 => exact qc_dec_n (r := 3) hi (by decide) (by simp only [qc_off]; omega)
  case h_6 => exact qc_dec_n (r := 4) hi (by decide) (by simp only [qc_off]; omega)
  case h_7 => exact qc_dec_n (r := 5) hi (by decide) (by simp only [qc_off]; omega)
  case h_8 => exact qc_dec_n (r := 1) hi (by decide) (by simp only [qc_off]; omega)
  case h_9 => obtain rfl : i = 0 := by omega
              exact qc_dec_r (r := 0) (by decide) rfl
  case h_10 => obtain rfl : i = 0 := by omega
               exact qc_dec_r (r := 1) (by decide) (by simp only [qc_off]; omega)
  case h_11 => obtain rfl : i = 0 := by omega
               exact qc_dec_r (r := 2) (by decide) (by simp only [qc_off]; omega)
  case h_12 => exact qc_dec_l hi rfl
  case h_13 => obtain rfl : i = 0 := by omega
               exact qc_dec_12 rfl
  case h_14 => exact qc_dec_t (r := 0) hi (by decide) rfl
  case h_15 => exact qc_dec_t (r := 1) hi (by decide) (by simp only [qc_off]; omega)
  case h_16 => exact qc_dec_t (r := 2) hi (by decide) (by simp only [qc_off]; omega)
  all_goals first | (exact absurd hi (Nat.not_lt_zero _)) | (obtain rfl : i = 0 := by omega
                                                             exact qc_dec_h (by decide) rfl)
/-- the layout -/
def qc_y (D : va_G) (c : Nat → ClassId) (h0 n m : Nat) (d : Int32) : qa_L := (D, c, fun k i => h0 + qc_off n m k i, (List.range (47 + 6 * n + m)).map (fun q => h0 + q), (n, m, d))
def qc_Y (y : qa_L) : Prop := ∀ k i, qa_a y k i = qa_a y 0 0 + qc_off (qa_n y) (qa_m y) k i
theorem qc_y_Y (D : va_G) (c : Nat → ClassId) (h0 n m : Nat) (d : Int32) : qc_Y (qc_y D c h0 n m d) := fun k i => rfl
theorem qc_off_lt {y : qa_L} {k i : Nat} (hi : i < qa_pr y k) : qc_off (qa_n y) (qa_m y) k i < 47 + 6 * qa_n y + qa_m y := by
  generalize hn : qa_n y = n
  generalize hm : qa_m y = m
  unfold qa_pr at hi
  rw [hn, hm] at hi
  split at hi <;> simp only [qc_off] <;> omega
theorem qc_ok {D : va_G} {c : Nat → ClassId} {h0 n m : Nat} {d : Int32} (h4 : 4 ≤ n) (h7 : n ≤ 7) (hm : 3 * m < n) (hd1 : 1 ≤ d.toInt) (hd2 : d.toInt ≤ 200) : qa_ok (qc_y D c h0 n m d) := by
  refine ⟨fun k i hi => ?_, fun k i k' i' hi hi' he => ?_, h4, h7, hm, hd1, hd2⟩
  · exact List.mem_map.mpr ⟨_, List.mem_range.mpr (qc_off_lt hi), rfl⟩
  · have he2 : qc_off n m k i = qc_off n m k' i' := Nat.add_left_cancel (show h0 + qc_off n m k i = h0 + qc_off n m k' i' from he)
    have h1 := qc_dec_off hi
    have h2 := qc_dec_off hi'
    have e3 : (k, i) = (k', i') := by
      rw [← h1, ← h2]
      exact congrArg (qc_dec n m) he2
    exact ⟨congrArg Prod.fst e3, congrArg Prod.snd e3⟩
/-- the cells as they stand when all is made -/
def qc_G (y : qa_L) (v : qa_M) (q : Nat) : va_E := qa_cell y v (qc_dec (qa_n y) (qa_m y) q).1 (qc_dec (qa_n y) (qa_m y) q).2
theorem qc_G_at {y : qa_L} {v : qa_M} {k i q : Nat} (hi : i < qa_pr y k) (hk : qc_off (qa_n y) (qa_m y) k i = q) : qc_G y v q = qa_cell y v k i := by
  unfold qc_G
  rw [← hk, qc_dec_off hi]
def qc_g (G : Nat → va_E) : List (Nat × va_E) → Nat → va_E
  | [], q => G q
  | x :: ex, q => if q = x.1 then x.2 else qc_g G ex q
theorem qc_g_out {G : Nat → va_E} {q : Nat} : ∀ {ex : List (Nat × va_E)}, (∀ x ∈ ex, x.1 ≠ q) → qc_g G ex q = G q
  | [], _ => rfl
  | x :: ex, h => by
    show (if q = x.1 then x.2 else qc_g G ex q) = G q
    rw [if_neg (fun e => h x List.mem_cons_self e.symm)]
    exact qc_g_out (fun z hz => h z (List.mem_cons_of_mem _ hz))
theorem qc_g_h {G : Nat → va_E} {p : Nat} {e : va_E} {ex : List (Nat × va_E)} : qc_g G ((p, e) :: ex) p = e := if_pos rfl
theorem qc_g_t {G : Nat → va_E} {p q : Nat} {e : va_E} {ex : List (Nat × va_E)} (h : q ≠ p) : qc_g G ((p, e) :: ex) q = qc_g G ex q := if_neg h
/-- t cells are made; those named in ex are not yet what they will be -/
def qc_P (y : qa_L) (v : qa_M) (t : Nat) (ex : List (Nat × va_E)) (H : Heap) : Prop := H.size = qa_a y 0 0 + t ∧ (∀ x ∈ ex, x.1 < t) ∧ ∀ q, q < t → va_at (qa_D y) qa_Cl (qa_a y 0 0 + q, qc_g (qc_G y v) ex q) H
def qc_AO (U : State) : Prop := (Cond.arrayOver (.array .int)).before #[] U = true
def qc_A (y : qa_L) : Nat → Prop := fun q => qa_a y 0 0 ≤ q
def qc_X (y : qa_L) (U : State) : Prop := qc_Y y ∧ va_AO "VotedFrames$Node" U ∧ va_AO "VotedFrames$Task" U ∧ qc_AO U
def qc_W (y : qa_L) (v : qa_M) (t : Nat) (ex : List (Nat × va_E)) (U : State) : Prop := qc_P y v t ex U.heap ∧ qa_K y U ∧ qc_X y U
def qc_C (y : qa_L) (v : qa_M) (t : Nat) (ex : List (Nat × va_E)) (s : State) (H : Heap) (locs : List Loc) : Prop := qc_P y v t ex H ∧ va_S (qc_A y) s.heap H locs ∧ qa_a y 0 0 ≤ s.heap.size
def qc_E (p : Program) (m : MethodId) (c : Code) (cc : ByteArray) (nL : Nat) (s : State) (args : Array Value) (own : String) (y : qa_L) : Prop := qa_E p m c cc nL s args own y ∧ qc_X y s
theorem qc_AO.moved {s U : State} (h : s.vm.Alike U.vm) (hA : qc_AO s) : qc_AO U := arrayOver_alikeB h hA
theorem qc_X.moved {y : qa_L} {s U : State} (h : s.vm.Alike U.vm) (hA : qc_X y s) : qc_X y U := ⟨hA.1, va_AO.moved h hA.2.1, va_AO.moved h hA.2.2.1, qc_AO.moved h hA.2.2.2⟩
theorem qc_W.blind {av : List Value} {y : qa_L} {v : qa_M} {t : Nat} {ex : List (Nat × va_E)} : FrameBlind (va_Pc av (qc_W y v t ex)) := fun _ U _ _ h => ⟨h.1, h.2.1, qa_K.same (s := U) rfl h.2.2.1, qc_X.moved (s := U) (Vm.Alike.refl _) h.2.2.2⟩
theorem qc_P.push {y : qa_L} {v : qa_M} {t : Nat} {ex : List (Nat × va_E)} {H H1 : Heap} {e : va_E} (h : qc_P y v t ex H) (z : H1.size = H.size + 1) (o : ∀ q, q < H.size → H1[q]? = H[q]?) (he : va_at (qa_D y) qa_Cl (H.size, e) H1) : qc_P y v (t + 1) ((t, e) :: ex) H1 := by
  refine ⟨by rw [z, h.1]; rfl, fun x hx => ?_, fun q hq => ?_⟩
  · rcases List.mem_cons.mp hx with rfl | hx
    · exact Nat.lt_succ_self _
    · exact Nat.lt_succ_of_lt (h.2.1 x hx)
  · by_cases e1 : q = t
    · subst e1
      rw [qc_g_h, ← h.1]
      exact he
    · rw [qc_g_t e1]
      have hl : q < t := by omega
      exact (h.2.2 q hl).kept (o _ (by rw [h.1]; exact Nat.add_lt_add_left hl _))
theorem qc_P.put {y : qa_L} {v : qa_M} {t p : Nat} {ex : List (Nat × va_E)} {H H1 : Heap} {e0 e : va_E} (h : qc_P y v t ((p, e0) :: ex) H) (z : H1.size = H.size) (o : ∀ q, q ≠ qa_a y 0 0 + p → H1[q]? = H[q]?) (he : va_at (qa_D y) qa_Cl (qa_a y 0 0 + p, e) H1) : qc_P y v t ((p, e) :: ex) H1 := by
  refine ⟨by rw [z, h.1], fun x hx => ?_, fun q hq => ?_⟩
  · rcases List.mem_cons.mp hx with rfl | hx
    · exact h.2.1 (p, e0) List.mem_cons_self
    · exact h.2.1 x (List.mem_cons_of_mem _ hx)
  · by_cases e1 : q = p
    · subst e1
      rw [qc_g_h]
      exact he
    · rw [qc_g_t e1]
      have h2 := h.2.2 q hq
      rw [qc_g_t e1] at h2
      exact h2.kept (o _ (by show qa_a y 0 0 + q ≠ _; omega))
theorem qc_P.drop {y : qa_L} {v : qa_M} {t p : Nat} {ex : List (Nat × va_E)} {H : Heap} {e : va_E} (h : qc_P y v t ((p, e) :: ex) H) (hp : ∀ x ∈ ex, x.1 ≠ p) (he : va_at (qa_D y) qa_Cl (qa_a y 0 0 + p, e) H → va_at (qa_D y) qa_Cl (qa_a y 0 0 + p, qc_G y v p) H) : qc_P y v t ex H := by
  refine ⟨h.1, fun x hx => h.2.1 x (List.mem_cons_of_mem _ hx), fun q hq => ?_⟩
  have h2 := h.2.2 q hq
  by_cases e1 : q = p
  · subst e1
    rw [qc_g_h] at h2
    rw [qc_g_out hp]
    exact he h2
  · rw [qc_g_t e1] at h2
    exact h2
theorem qc_P.swap {y : qa_L} {v : qa_M} {t : Nat} {a b : Nat × va_E} {ex : List (Nat × va_E)} {H : Heap} (h : qc_P y v t (a :: b :: ex) H) (hp : a.1 ≠ b.1) : qc_P y v t (b :: a :: ex) H := by
  refine ⟨h.1, fun x hx => h.2.1 x ?_, fun q hq => ?_⟩
  · simp only [List.mem_cons] at hx ⊢
    rcases hx with h | h | h
    · exact Or.inr (Or.inl h)
    · exact Or.inl h
    · exact Or.inr (Or.inr h)
  · have h2 := h.2.2 q hq
    have e : qc_g (qc_G y v) (b :: a :: ex) q = qc_g (qc_G y v) (a :: b :: ex) q := by
      show (if q = b.1 then b.2 else if q = a.1 then a.2 else _) = (if q = a.1 then a.2 else if q = b.1 then b.2 else _)
      by_cases h1 : q = a.1
      · rw [if_neg (fun z => hp (h1.symm.trans z)), if_pos h1, if_pos h1]
      · rw [if_neg h1, if_neg h1]
    rw [e]
    exact h2
/-- a cell that stands as it will -/
theorem qc_P.cell {y : qa_L} {v : qa_M} {t k i q : Nat} {ex : List (Nat × va_E)} {H : Heap} (h : qc_P y v t ex H) (hY : qc_Y y) (hi : i < qa_pr y k) (hk : qc_off (qa_n y) (qa_m y) k i = q) (hq : q < t) (hx : ∀ x ∈ ex, x.1 ≠ q) : va_at (qa_D y) qa_Cl (qa_a y k i, qa_cell y v k i) H := by
  have h2 := h.2.2 q hq
  rw [qc_g_out hx, qc_G_at hi hk] at h2
  rw [hY k i, hk]
  exact h2
theorem qc_S.push {y : qa_L} {s : State} {H H1 : Heap} {locs : List Loc} (h : va_S (qc_A y) s.heap H locs) (z : H1.size = H.size + 1) (o : ∀ q, q < H.size → H1[q]? = H[q]?) : va_S (qc_A y) s.heap H1 locs :=
  ⟨by rw [z]; exact Nat.le_succ_of_le h.1, fun x h1 h2 => (o x (Nat.lt_of_lt_of_le h1 h.1)).trans (h.2.1 x h1 h2), h.2.2⟩
def qc_R (lv mc ms : Nat) : Room := { frames := lv, cells := mc, slots := ms, locals := 64 * lv }
def qc_Mv (l : Launch) (x : MethodName) (bytes : ByteArray) (maxL lv mc ms : Nat) (av : List Value) (y : qa_L) (v : qa_M) (t : Nat) (ex : List (Nat × va_E)) (t1 : Nat) (ex1 : List (Nat × va_E)) : Prop :=
  Met l x (qa_ws x bytes maxL none) (qc_R lv mc ms) (va_Pc av (fun U => qc_W y v t ex U ∧ qa_a y 0 0 ≤ U.heap.size)) (va_Qv (fun _ : Unit => True) (fun _ U => qc_W y v t1 ex1 U) (qc_A y)) mc ms (qc_A y)
def qc_Mr (l : Launch) (x : MethodName) (bytes : ByteArray) (maxL : Nat) (ret : Option FieldType) (lv mc ms : Nat) (av : List Value) (y : qa_L) (v : qa_M) (t : Nat) (ex : List (Nat × va_E)) (t1 : Nat) (ex1 : List (Nat × va_E)) (a : Nat) : Prop :=
  Met l x (qa_ws x bytes maxL ret) (qc_R lv mc ms) (va_Pc av (fun U => qc_W y v t ex U ∧ qa_a y 0 0 ≤ U.heap.size)) (va_Qr (fun _ : Unit => True) (fun _ b U => b = a ∧ qc_W y v t1 ex1 U) (qc_A y)) mc ms (qc_A y)
theorem qc_blind {av : List Value} {y : qa_L} {v : qa_M} {t : Nat} {ex : List (Nat × va_E)} : FrameBlind (va_Pc av (fun U => qc_W y v t ex U ∧ qa_a y 0 0 ≤ U.heap.size)) := fun a U g mk h => ⟨h.1, (qc_W.blind (av := av) (y := y) (v := v) (t := t) (ex := ex) a U g mk ⟨h.1, h.2.1⟩).2, h.2.2⟩
