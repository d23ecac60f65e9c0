set_option maxHeartbeats 4000000 in
set_option maxRecDepth 100000 in
theorem c_ND_init (l : Launch) (y : qa_L) (i : Nat) (hi : i < qa_n y) (ex : List (Nat × va_E)) (hex : ∀ x ∈ ex, x.1 < 2 + 6 * i) : qc_Mv l y_ND_init b_ND_init 3 1 5 32 [.ref (qa_a y 2 i), .int (nI i), .int (nI (qa_n y))] y (qc_v (qa_n y)) (3 + 6 * i) ((2 + 6 * i, .inr (1, [.int 0, .null, .null, .null, .null, .null, .int 0, .int 0, .int 0, .int 0, .int 0, .int 0, .int 0, .int 0, .int 0])) :: ex) (8 + 6 * i) (ex) := by
  refine qc_ofMv (plainFor_of_name (by decide)) rfl (Nat.le_of_ble_eq_true rfl) ?_
  intro p e s m below meth c ls E hr hlocks hnm hC hl
  have E : qc_E p m c b_ND_init 3 s _ "VotedFrames$Node" y := E
  have F := E.1.1
  have hx := F.1
  have hb := F.2.1
  have hn4 : 4 ≤ qa_n y := E.1.2.1.2.2.1
  have hn7 : qa_n y ≤ 7 := E.1.2.1.2.2.2.1
  have hm3 : 3 * qa_m y < qa_n y := E.1.2.1.2.2.2.2.1
  have hl : lv_has ls 3 [(0, .ref (qa_a y 2 i)), (1, .int (nI i)), (2, .int (nI (qa_n y)))] := hl
  have hC : qc_C y (qc_v (qa_n y)) (3 + 6 * i) ((2 + 6 * i, .inr (1, [.int 0, .null, .null, .null, .null, .null, .int 0, .int 0, .int 0, .int 0, .int 0, .int 0, .int 0, .int 0, .int 0])) :: ex) s s.heap [] := hC
  refine lv_aload_n hx hb d_ND_init_0 rfl (lv_at hl 0 rfl) ?_
  refine qc_obj E (qa_m1 38 (by decide +kernel) rfl) hl.1 (Nat.le_of_ble_eq_true rfl) (Nat.le_of_ble_eq_true rfl) d_ND_init_1 ?_
  refine lv_aload_n hx hb d_ND_init_4 rfl (lv_at hl 0 rfl) ?_
  refine lv_iconst (v := 4) hx hb d_ND_init_5 (by decide) ?_
  refine qc_newa (k := 7) (i := i) (cap := 4) E hC rfl hi rfl rfl rfl (show 4 ≤ 4 by decide) rfl (by simp only [qc_R] <;> omega) (by simp only [qc_R] <;> omega) d_ND_init_6 (fun H hC => ?_)
  have hC : qc_C y (qc_v (qa_n y)) (3 + 6 * i + 1) ((2 + 6 * i, .inr (1, [.int 0, .null, .null, .null, .null, .null, .int 0, .int 0, .int 0, .int 0, .int 0, .int 0, .int 0, .int 0, .int 0])) :: ex) s _ _ := hC
  refine qc_put (k := 2) (i := i) (f := 5) E hC rfl rfl (by decide) f_ND_9 rfl (Or.inr ⟨rfl, hnm, rfl⟩) rfl rfl rfl (Nat.le_of_ble_eq_true rfl) d_ND_init_8 (fun H locs hC => ?_)
  have hC : qc_C y (qc_v (qa_n y)) (3 + 6 * i + 1) ((2 + 6 * i, .inr (1, [.int 0, .null, .null, .null, .null, .ref (qa_a y 7 i), .int 0, .int 0, .int 0, .int 0, .int 0, .int 0, .int 0, .int 0, .int 0])) :: ex) s _ _ := hC
  refine lv_aload_n hx hb d_ND_init_11 rfl (lv_at hl 0 rfl) ?_
  refine lv_iconst (v := 0) hx hb d_ND_init_12 (by decide) ?_
  refine qc_put (k := 2) (i := i) (f := 9) E hC rfl rfl (by decide) f_ND_15 rfl (Or.inl rfl) rfl rfl rfl (Nat.le_of_ble_eq_true rfl) d_ND_init_13 (fun H locs hC => ?_)
  have hC : qc_C y (qc_v (qa_n y)) (3 + 6 * i + 1) ((2 + 6 * i, .inr (1, [.int 0, .null, .null, .null, .null, .ref (qa_a y 7 i), .int 0, .int 0, .int 0, .int 0, .int 0, .int 0, .int 0, .int 0, .int 0])) :: ex) s _ _ := hC
  refine lv_aload_n hx hb d_ND_init_16 rfl (lv_at hl 0 rfl) ?_
  refine lv_iload_n hx hb d_ND_init_17 rfl (lv_at hl 1 rfl) ?_
  refine qc_put (k := 2) (i := i) (f := 0) E hC rfl rfl (by decide) f_ND_19 rfl (Or.inr ⟨rfl, hnm, rfl⟩) rfl rfl rfl (Nat.le_of_ble_eq_true rfl) d_ND_init_18 (fun H locs hC => ?_)
  have hC : qc_C y (qc_v (qa_n y)) (3 + 6 * i + 1) ((2 + 6 * i, .inr (1, [.int (nI i), .null, .null, .null, .null, .ref (qa_a y 7 i), .int 0, .int 0, .int 0, .int 0, .int 0, .int 0, .int 0, .int 0, .int 0])) :: ex) s _ _ := hC
  refine lv_aload_n hx hb d_ND_init_21 rfl (lv_at hl 0 rfl) ?_
  refine lv_iload_n hx hb d_ND_init_22 rfl (lv_at hl 2 rfl) ?_
  refine qc_newa (k := 3) (i := i) (cap := 7) E hC (by simp only [qc_off] <;> omega) hi rfl rfl rfl (show qa_n y ≤ 7 by omega) rfl (by simp only [qc_R] <;> omega) (by simp only [qc_R] <;> omega) d_ND_init_23 (fun H hC => ?_)
  have hC : qc_C y (qc_v (qa_n y)) (3 + 6 * i + 1 + 1) ((2 + 6 * i, .inr (1, [.int (nI i), .null, .null, .null, .null, .ref (qa_a y 7 i), .int 0, .int 0, .int 0, .int 0, .int 0, .int 0, .int 0, .int 0, .int 0])) :: ex) s _ _ := hC
  refine qc_put (k := 2) (i := i) (f := 1) E hC rfl rfl (by decide) f_ND_22 rfl (Or.inr ⟨rfl, hnm, rfl⟩) rfl rfl rfl (Nat.le_of_ble_eq_true rfl) d_ND_init_25 (fun H locs hC => ?_)
  have hC : qc_C y (qc_v (qa_n y)) (3 + 6 * i + 1 + 1) ((2 + 6 * i, .inr (1, [.int (nI i), .ref (qa_a y 3 i), .null, .null, .null, .ref (qa_a y 7 i), .int 0, .int 0, .int 0, .int 0, .int 0, .int 0, .int 0, .int 0, .int 0])) :: ex) s _ _ := hC
  refine lv_aload_n hx hb d_ND_init_28 rfl (lv_at hl 0 rfl) ?_
  refine lv_iload_n hx hb d_ND_init_29 rfl (lv_at hl 2 rfl) ?_
  refine qc_newa (k := 4) (i := i) (cap := 7) E hC (by simp only [qc_off] <;> omega) hi rfl rfl rfl (show qa_n y ≤ 7 by omega) rfl (by simp only [qc_R] <;> omega) (by simp only [qc_R] <;> omega) d_ND_init_30 (fun H hC => ?_)
  have hC : qc_C y (qc_v (qa_n y)) (3 + 6 * i + 1 + 1 + 1) ((2 + 6 * i, .inr (1, [.int (nI i), .ref (qa_a y 3 i), .null, .null, .null, .ref (qa_a y 7 i), .int 0, .int 0, .int 0, .int 0, .int 0, .int 0, .int 0, .int 0, .int 0])) :: ex) s _ _ := hC
  refine qc_put (k := 2) (i := i) (f := 2) E hC rfl rfl (by decide) f_ND_25 rfl (Or.inr ⟨rfl, hnm, rfl⟩) rfl rfl rfl (Nat.le_of_ble_eq_true rfl) d_ND_init_32 (fun H locs hC => ?_)
  have hC : qc_C y (qc_v (qa_n y)) (3 + 6 * i + 1 + 1 + 1) ((2 + 6 * i, .inr (1, [.int (nI i), .ref (qa_a y 3 i), .ref (qa_a y 4 i), .null, .null, .ref (qa_a y 7 i), .int 0, .int 0, .int 0, .int 0, .int 0, .int 0, .int 0, .int 0, .int 0])) :: ex) s _ _ := hC
  refine lv_aload_n hx hb d_ND_init_35 rfl (lv_at hl 0 rfl) ?_
  refine lv_iload_n hx hb d_ND_init_36 rfl (lv_at hl 2 rfl) ?_
  refine qc_newa (k := 5) (i := i) (cap := 7) E hC (by simp only [qc_off] <;> omega) hi rfl rfl rfl (show qa_n y ≤ 7 by omega) rfl (by simp only [qc_R] <;> omega) (by simp only [qc_R] <;> omega) d_ND_init_37 (fun H hC => ?_)
  have hC : qc_C y (qc_v (qa_n y)) (3 + 6 * i + 1 + 1 + 1 + 1) ((2 + 6 * i, .inr (1, [.int (nI i), .ref (qa_a y 3 i), .ref (qa_a y 4 i), .null, .null, .ref (qa_a y 7 i), .int 0, .int 0, .int 0, .int 0, .int 0, .int 0, .int 0, .int 0, .int 0])) :: ex) s _ _ := hC
  refine qc_put (k := 2) (i := i) (f := 3) E hC rfl rfl (by decide) f_ND_28 rfl (Or.inr ⟨rfl, hnm, rfl⟩) rfl rfl rfl (Nat.le_of_ble_eq_true rfl) d_ND_init_39 (fun H locs hC => ?_)
  have hC : qc_C y (qc_v (qa_n y)) (3 + 6 * i + 1 + 1 + 1 + 1) ((2 + 6 * i, .inr (1, [.int (nI i), .ref (qa_a y 3 i), .ref (qa_a y 4 i), .ref (qa_a y 5 i), .null, .ref (qa_a y 7 i), .int 0, .int 0, .int 0, .int 0, .int 0, .int 0, .int 0, .int 0, .int 0])) :: ex) s _ _ := hC
  refine lv_aload_n hx hb d_ND_init_42 rfl (lv_at hl 0 rfl) ?_
  refine lv_iload_n hx hb d_ND_init_43 rfl (lv_at hl 2 rfl) ?_
  refine qc_newa (k := 6) (i := i) (cap := 7) E hC (by simp only [qc_off] <;> omega) hi rfl rfl rfl (show qa_n y ≤ 7 by omega) rfl (by simp only [qc_R] <;> omega) (by simp only [qc_R] <;> omega) d_ND_init_44 (fun H hC => ?_)
  have hC : qc_C y (qc_v (qa_n y)) (3 + 6 * i + 1 + 1 + 1 + 1 + 1) ((2 + 6 * i, .inr (1, [.int (nI i), .ref (qa_a y 3 i), .ref (qa_a y 4 i), .ref (qa_a y 5 i), .null, .ref (qa_a y 7 i), .int 0, .int 0, .int 0, .int 0, .int 0, .int 0, .int 0, .int 0, .int 0])) :: ex) s _ _ := hC
  refine qc_put (k := 2) (i := i) (f := 4) E hC rfl rfl (by decide) f_ND_31 rfl (Or.inr ⟨rfl, hnm, rfl⟩) rfl rfl rfl (Nat.le_of_ble_eq_true rfl) d_ND_init_46 (fun H locs hC => ?_)
  have hC : qc_C y (qc_v (qa_n y)) (3 + 6 * i + 1 + 1 + 1 + 1 + 1) ((2 + 6 * i, .inr (1, [.int (nI i), .ref (qa_a y 3 i), .ref (qa_a y 4 i), .ref (qa_a y 5 i), .ref (qa_a y 6 i), .ref (qa_a y 7 i), .int 0, .int 0, .int 0, .int 0, .int 0, .int 0, .int 0, .int 0, .int 0])) :: ex) s _ _ := hC
  refine lv_aload_n hx hb d_ND_init_49 rfl (lv_at hl 0 rfl) ?_
  refine lv_iconst (v := 1) hx hb d_ND_init_50 (by decide) ?_
  refine lv_iload_n hx hb d_ND_init_51 rfl (lv_at hl 2 rfl) ?_
  refine lv_ishl hx hb d_ND_init_52 ?_
  refine lv_iconst (v := 1) hx hb d_ND_init_53 (by decide) ?_
  refine lv_isub hx hb d_ND_init_54 ?_
  refine qc_put (k := 2) (i := i) (f := 11) E hC rfl rfl (by decide) f_ND_34 rfl (Or.inl rfl) rfl rfl rfl (Nat.le_of_ble_eq_true rfl) d_ND_init_55 (fun H locs hC => ?_)
  have hC : qc_C y (qc_v (qa_n y)) (3 + 6 * i + 1 + 1 + 1 + 1 + 1) ((2 + 6 * i, .inr (1, [.int (nI i), .ref (qa_a y 3 i), .ref (qa_a y 4 i), .ref (qa_a y 5 i), .ref (qa_a y 6 i), .ref (qa_a y 7 i), .int 0, .int 0, .int 0, .int 0, .int 0, .int (((1 : Int32) <<< ((nI (qa_n y)) &&& 31)) - 1), .int 0, .int 0, .int 0])) :: ex) s _ _ := hC
  have hC : qc_C y (qc_v (qa_n y)) (3 + 6 * i + 1 + 1 + 1 + 1 + 1) (ex) s _ _ := ⟨hC.1.drop (fun x hx => Nat.ne_of_lt (hex x hx)) (fun h => by rw [qc_G_at (y := y) (k := 2) (i := i) (q := 2 + 6 * i) hi rfl]; exact h), hC.2⟩
  have hC : qc_C y (qc_v (qa_n y)) (8 + 6 * i) (ex) s _ _ := hC.cast (by omega)
  exact qc_vret E hC hr hlocks (by omega) (by omega) d_ND_init_58

set_option maxHeartbeats 4000000 in
set_option maxRecDepth 100000 in
theorem c_TK_init (l : Launch) (y : qa_L) (i : Nat) (hi : i < 4) (ex : List (Nat × va_E)) (hex : ∀ x ∈ ex, x.1 < 7 + 6 * qa_n y + qa_m y + 3 * i) : qc_Mv l y_TK_init b_TK_init 1 1 2 24 [.ref (qa_a y 13 i)] y (qc_v (qa_n y)) (8 + 6 * qa_n y + qa_m y + 3 * i) ((7 + 6 * qa_n y + qa_m y + 3 * i, .inr (3, [.null, .null, .int 0, .int 0, .int 0])) :: ex) (10 + 6 * qa_n y + qa_m y + 3 * i) (ex) := by
  refine qc_ofMv (plainFor_of_name (by decide)) rfl (Nat.le_of_ble_eq_true rfl) ?_
  intro p e s m below meth c ls E hr hlocks hnm hC hl
  have E : qc_E p m c b_TK_init 1 s _ "VotedFrames$Task" y := E
  have F := E.1.1
  have hx := F.1
  have hb := F.2.1
  have hn4 : 4 ≤ qa_n y := E.1.2.1.2.2.1
  have hn7 : qa_n y ≤ 7 := E.1.2.1.2.2.2.1
  have hm3 : 3 * qa_m y < qa_n y := E.1.2.1.2.2.2.2.1
  have hl : lv_has ls 1 [(0, .ref (qa_a y 13 i))] := hl
  have hC : qc_C y (qc_v (qa_n y)) (8 + 6 * qa_n y + qa_m y + 3 * i) ((7 + 6 * qa_n y + qa_m y + 3 * i, .inr (3, [.null, .null, .int 0, .int 0, .int 0])) :: ex) s s.heap [] := hC
  refine lv_aload_n hx hb d_TK_init_0 rfl (lv_at hl 0 rfl) ?_
  refine qc_obj E (qa_m1 141 (by decide +kernel) rfl) hl.1 (Nat.le_of_ble_eq_true rfl) (Nat.le_of_ble_eq_true rfl) d_TK_init_1 ?_
  refine lv_aload_n hx hb d_TK_init_4 rfl (lv_at hl 0 rfl) ?_
  refine lv_bipush (v := 12) hx hb d_TK_init_5 (by decide) ?_
  refine qc_newa (k := 14) (i := i) (cap := 12) E hC rfl hi rfl rfl rfl (show 12 ≤ 12 by decide) rfl (by simp only [qc_R] <;> omega) (by simp only [qc_R] <;> omega) d_TK_init_7 (fun H hC => ?_)
  have hC : qc_C y (qc_v (qa_n y)) (8 + 6 * qa_n y + qa_m y + 3 * i + 1) ((7 + 6 * qa_n y + qa_m y + 3 * i, .inr (3, [.null, .null, .int 0, .int 0, .int 0])) :: ex) s _ _ := hC
  refine qc_put (k := 13) (i := i) (f := 0) E hC rfl rfl (by decide) f_TK_9 rfl (Or.inr ⟨rfl, hnm, rfl⟩) rfl rfl rfl (Nat.le_of_ble_eq_true rfl) d_TK_init_9 (fun H locs hC => ?_)
  have hC : qc_C y (qc_v (qa_n y)) (8 + 6 * qa_n y + qa_m y + 3 * i + 1) ((7 + 6 * qa_n y + qa_m y + 3 * i, .inr (3, [.ref (qa_a y 14 i), .null, .int 0, .int 0, .int 0])) :: ex) s _ _ := hC
  refine lv_aload_n hx hb d_TK_init_12 rfl (lv_at hl 0 rfl) ?_
  refine lv_bipush (v := 12) hx hb d_TK_init_13 (by decide) ?_
  refine qc_newa (k := 15) (i := i) (cap := 12) E hC (by simp only [qc_off] <;> omega) hi rfl rfl rfl (show 12 ≤ 12 by decide) rfl (by simp only [qc_R] <;> omega) (by simp only [qc_R] <;> omega) d_TK_init_15 (fun H hC => ?_)
  have hC : qc_C y (qc_v (qa_n y)) (8 + 6 * qa_n y + qa_m y + 3 * i + 1 + 1) ((7 + 6 * qa_n y + qa_m y + 3 * i, .inr (3, [.ref (qa_a y 14 i), .null, .int 0, .int 0, .int 0])) :: ex) s _ _ := hC
  refine qc_put (k := 13) (i := i) (f := 1) E hC rfl rfl (by decide) f_TK_13 rfl (Or.inr ⟨rfl, hnm, rfl⟩) rfl rfl rfl (Nat.le_of_ble_eq_true rfl) d_TK_init_17 (fun H locs hC => ?_)
  have hC : qc_C y (qc_v (qa_n y)) (8 + 6 * qa_n y + qa_m y + 3 * i + 1 + 1) ((7 + 6 * qa_n y + qa_m y + 3 * i, .inr (3, [.ref (qa_a y 14 i), .ref (qa_a y 15 i), .int 0, .int 0, .int 0])) :: ex) s _ _ := hC
  have hC : qc_C y (qc_v (qa_n y)) (8 + 6 * qa_n y + qa_m y + 3 * i + 1 + 1) (ex) s _ _ := ⟨hC.1.drop (fun x hx => Nat.ne_of_lt (hex x hx)) (fun h => by rw [qc_G_at (y := y) (k := 13) (i := i) (q := 7 + 6 * qa_n y + qa_m y + 3 * i) hi rfl]; exact h), hC.2⟩
  have hC : qc_C y (qc_v (qa_n y)) (10 + 6 * qa_n y + qa_m y + 3 * i) (ex) s _ _ := hC.cast (by omega)
  exact qc_vret E hC hr hlocks (by omega) (by omega) d_TK_init_20

set_option maxHeartbeats 4000000 in
set_option maxRecDepth 100000 in
theorem c_SM_init (l : Launch) (y : qa_L) (ex : List (Nat × va_E)) (hex : ∀ x ∈ ex, x.1 < 3 + 6 * qa_n y + qa_m y + 16) : qc_Mv l y_SM_init b_SM_init 1 1 1 6 [.ref (qa_a y 16 0)] y (qc_v (qa_n y)) (3 + 6 * qa_n y + qa_m y + 17) ((3 + 6 * qa_n y + qa_m y + 16, .inr (4, [.null, .int 0])) :: ex) (3 + 6 * qa_n y + qa_m y + 18) (ex) := by
  refine qc_ofMv (plainFor_of_name (by decide)) rfl (Nat.le_of_ble_eq_true rfl) ?_
  intro p e s m below meth c ls E hr hlocks hnm hC hl
  have E : qc_E p m c b_SM_init 1 s _ "VotedFrames$StackMachine" y := E
  have F := E.1.1
  have hx := F.1
  have hb := F.2.1
  have hn4 : 4 ≤ qa_n y := E.1.2.1.2.2.1
  have hn7 : qa_n y ≤ 7 := E.1.2.1.2.2.2.1
  have hm3 : 3 * qa_m y < qa_n y := E.1.2.1.2.2.2.2.1
  have hl : lv_has ls 1 [(0, .ref (qa_a y 16 0))] := hl
  have hC : qc_C y (qc_v (qa_n y)) (3 + 6 * qa_n y + qa_m y + 17) ((3 + 6 * qa_n y + qa_m y + 16, .inr (4, [.null, .int 0])) :: ex) s s.heap [] := hC
  refine lv_aload_n hx hb d_SM_init_0 rfl (lv_at hl 0 rfl) ?_
  refine qc_obj E (qa_m1 168 (by decide +kernel) rfl) hl.1 (Nat.le_of_ble_eq_true rfl) (Nat.le_of_ble_eq_true rfl) d_SM_init_1 ?_
  refine lv_aload_n hx hb d_SM_init_4 rfl (lv_at hl 0 rfl) ?_
  refine lv_bipush (v := 6) hx hb d_SM_init_5 (by decide) ?_
  refine qc_newa (k := 17) (i := 0) (cap := 6) E hC rfl Nat.one_pos rfl rfl rfl (show 6 ≤ 6 by decide) rfl (by simp only [qc_R] <;> omega) (by simp only [qc_R] <;> omega) d_SM_init_7 (fun H hC => ?_)
  have hC : qc_C y (qc_v (qa_n y)) (3 + 6 * qa_n y + qa_m y + 17 + 1) ((3 + 6 * qa_n y + qa_m y + 16, .inr (4, [.null, .int 0])) :: ex) s _ _ := hC
  refine qc_put (k := 16) (i := 0) (f := 0) E hC rfl rfl (by decide) f_SM_11 rfl (Or.inr ⟨rfl, hnm, rfl⟩) rfl rfl rfl (Nat.le_of_ble_eq_true rfl) d_SM_init_9 (fun H locs hC => ?_)
  have hC : qc_C y (qc_v (qa_n y)) (3 + 6 * qa_n y + qa_m y + 17 + 1) ((3 + 6 * qa_n y + qa_m y + 16, .inr (4, [.ref (qa_a y 17 0), .int 0])) :: ex) s _ _ := hC
  have hC : qc_C y (qc_v (qa_n y)) (3 + 6 * qa_n y + qa_m y + 17 + 1) (ex) s _ _ := ⟨hC.1.drop (fun x hx => Nat.ne_of_lt (hex x hx)) (fun h => by rw [qc_G_at (y := y) (k := 16) (i := 0) (q := 3 + 6 * qa_n y + qa_m y + 16) Nat.one_pos rfl]; exact h), hC.2⟩
  have hC : qc_C y (qc_v (qa_n y)) (3 + 6 * qa_n y + qa_m y + 18) (ex) s _ _ := hC.cast (by omega)
  exact qc_vret E hC hr hlocks (by omega) (by omega) d_SM_init_12
