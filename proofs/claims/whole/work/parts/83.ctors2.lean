set_option maxHeartbeats 4000000 in
set_option maxRecDepth 100000 in
theorem c_RL_init (l : Launch) (y : qa_L) (e0 : va_E) : qc_Mv l y_RL_init b_RL_init 5 1 5 424 [.ref (qa_a y 8 0), .ref (qa_a y 1 0), .int (nI (qa_m y))] y (qc_v (qa_n y)) (3 + 6 * qa_n y) ((2 + 6 * qa_n y, .inr (2, [.null, .int 0, .null, .null, .int 0, .int 0, .int 0, .int 0])) :: (0, e0) :: []) (6 + 6 * qa_n y + qa_m y) ((0, e0) :: []) := by
  refine qc_ofMv (plainFor_of_name (by decide)) rfl (Nat.le_of_ble_eq_true rfl) ?_
  intro p e s m below meth c ls E hr hlocks hnm hC hl
  have E : qc_E p m c b_RL_init 5 s _ "VotedFrames$Relay" y := E
  have F := E.1.1
  have hx := F.1
  have hb := F.2.1
  have hn4 : 4 ≤ qa_n y := E.1.2.1.2.2.1
  have hn7 : qa_n y ≤ 7 := E.1.2.1.2.2.2.1
  have hm3 : 3 * qa_m y < qa_n y := E.1.2.1.2.2.2.2.1
  have hl : lv_has ls 5 [(0, .ref (qa_a y 8 0)), (1, .ref (qa_a y 1 0)), (2, .int (nI (qa_m y)))] := hl
  have hC : qc_C y (qc_v (qa_n y)) (3 + 6 * qa_n y) ((2 + 6 * qa_n y, .inr (2, [.null, .int 0, .null, .null, .int 0, .int 0, .int 0, .int 0])) :: (0, e0) :: []) s s.heap [] := hC
  refine lv_aload_n hx hb d_RL_init_0 rfl (lv_at hl 0 rfl) ?_
  refine qc_obj E (qa_m1 104 (by decide +kernel) rfl) hl.1 (Nat.le_of_ble_eq_true rfl) (Nat.le_of_ble_eq_true rfl) d_RL_init_1 ?_
  refine lv_aload_n hx hb d_RL_init_4 rfl (lv_at hl 0 rfl) ?_
  refine lv_aload_n hx hb d_RL_init_5 rfl (lv_at hl 1 rfl) ?_
  refine qc_put (k := 8) (i := 0) (f := 0) E hC rfl rfl (by decide) f_RL_7 rfl (Or.inr ⟨rfl, hnm, rfl⟩) rfl rfl rfl (Nat.le_of_ble_eq_true rfl) d_RL_init_6 (fun H locs hC => ?_)
  have hC : qc_C y (qc_v (qa_n y)) (3 + 6 * qa_n y) ((2 + 6 * qa_n y, .inr (2, [.ref (qa_a y 1 0), .int 0, .null, .null, .int 0, .int 0, .int 0, .int 0])) :: (0, e0) :: []) s _ _ := hC
  refine lv_aload_n hx hb d_RL_init_9 rfl (lv_at hl 0 rfl) ?_
  refine lv_iload_n hx hb d_RL_init_10 rfl (lv_at hl 2 rfl) ?_
  refine qc_put (k := 8) (i := 0) (f := 1) E hC rfl rfl (by decide) f_RL_13 rfl (Or.inr ⟨rfl, hnm, rfl⟩) rfl rfl rfl (Nat.le_of_ble_eq_true rfl) d_RL_init_11 (fun H locs hC => ?_)
  have hC : qc_C y (qc_v (qa_n y)) (3 + 6 * qa_n y) ((2 + 6 * qa_n y, .inr (2, [.ref (qa_a y 1 0), .int (nI (qa_m y)), .null, .null, .int 0, .int 0, .int 0, .int 0])) :: (0, e0) :: []) s _ _ := hC
  refine lv_iconst (v := 1) hx hb d_RL_init_14 (by decide) ?_
  refine lv_istore_n hx hb d_RL_init_15 rfl hl (by decide) rfl (fun ls hl => ?_)
  have hl : lv_has ls 5 [(3, .int 1), (0, .ref (qa_a y 8 0)), (1, .ref (qa_a y 1 0)), (2, .int (nI (qa_m y)))] := hl
  refine lv_iconst (v := 0) hx hb d_RL_init_16 (by decide) ?_
  refine lv_istore hx hb d_RL_init_17 hl (by decide) rfl (fun ls hl => ?_)
  have hl : lv_has ls 5 [(4, .int 0), (3, .int 1), (0, .ref (qa_a y 8 0)), (1, .ref (qa_a y 1 0)), (2, .int (nI (qa_m y)))] := hl
  have loop : ∀ (d k : Nat) (H : Heap) (locs : List Loc) (ls : Array Slot), k + d = qa_m y → qc_C y (qc_v (qa_n y)) (3 + 6 * qa_n y) ((2 + 6 * qa_n y, .inr (2, [.ref (qa_a y 1 0), .int (nI (qa_m y)), .null, .null, .int 0, .int 0, .int 0, .int 0])) :: (0, e0) :: []) s H locs → lv_has ls 5 [(4, .int (nI k)), (3, .int (nI (qc_rw (qa_n y) k))), (0, .ref (qa_a y 8 0)), (1, .ref (qa_a y 1 0)), (2, .int (nI (qa_m y)))] → W p l e (qc_R 1 5 424) s m [.ref (qa_a y 8 0), .ref (qa_a y 1 0), .int (nI (qa_m y))].toArray below meth c H locs (0) (0) (MQ below (va_Qv (fun _ : Unit => True) (fun _ U => qc_W y (qc_v (qa_n y)) (6 + 6 * qa_n y + qa_m y) ((0, e0) :: []) U) (qc_A y)) [.ref (qa_a y 8 0), .ref (qa_a y 1 0), .int (nI (qa_m y))].toArray s 5 424 (qc_A y)) (F0 m 19 ls []) := by
    intro d
    induction d with
    | zero =>
      intro k H locs ls hkd hC hl
      obtain rfl : qa_m y = k := by omega
      refine lv_iload hx hb d_RL_init_19 (lv_at hl 0 rfl) ?_
      refine lv_iload_n hx hb d_RL_init_21 rfl (lv_at hl 4 rfl) ?_
      refine lv_icmp_ge hx hb d_RL_init_22 rfl (fun _ => ?_) (fun h9 => absurd (nI_le (Nat.le_refl _) (by omega)) h9)
      refine lv_aload_n hx hb d_RL_init_38 rfl (lv_at hl 2 rfl) ?_
      refine lv_iload_n hx hb d_RL_init_39 rfl (lv_at hl 1 rfl) ?_
      refine lv_aload_n hx hb d_RL_init_40 rfl (lv_at hl 3 rfl) ?_
      refine qc_len (k := 1) (i := 0) (q := 1) (x := nI (qa_n y)) E hC Nat.one_pos rfl (by omega) (qc_mc (P := fun z => z ≠ 1) (show (2 + 6 * qa_n y : Nat) ≠ 1 by omega) (qc_mc (P := fun z => z ≠ 1) (show (0 : Nat) ≠ 1 by omega) (qc_m0 (P := fun z => z ≠ 1)))) rfl rfl d_RL_init_41 ?_
      refine lv_imul hx hb d_RL_init_42 ?_
      refine qc_newa (k := 9) (i := 0) (cap := 400) E hC rfl Nat.one_pos rfl rfl (by rw [show qa_ln y 9 = qa_rows (qa_n y) (qa_m y) * qa_n y from rfl, ← qc_rw_rows (by omega)]; exact (qn_mul rfl rfl)) (qc_ln_cap E.1.2.1 9) rfl (by simp only [qc_R] <;> omega) (by simp only [qc_R] <;> omega) d_RL_init_43 (fun H hC => ?_)
      have hC : qc_C y (qc_v (qa_n y)) (3 + 6 * qa_n y + 1) ((2 + 6 * qa_n y, .inr (2, [.ref (qa_a y 1 0), .int (nI (qa_m y)), .null, .null, .int 0, .int 0, .int 0, .int 0])) :: (0, e0) :: []) s _ _ := hC
      refine qc_put (k := 8) (i := 0) (f := 2) E hC rfl rfl (by decide) f_RL_17 rfl (Or.inr ⟨rfl, hnm, rfl⟩) rfl rfl rfl (Nat.le_of_ble_eq_true rfl) d_RL_init_45 (fun H locs hC => ?_)
      have hC : qc_C y (qc_v (qa_n y)) (3 + 6 * qa_n y + 1) ((2 + 6 * qa_n y, .inr (2, [.ref (qa_a y 1 0), .int (nI (qa_m y)), .ref (qa_a y 9 0), .null, .int 0, .int 0, .int 0, .int 0])) :: (0, e0) :: []) s _ _ := hC
      refine lv_aload_n hx hb d_RL_init_48 rfl (lv_at hl 2 rfl) ?_
      refine lv_iload_n hx hb d_RL_init_49 rfl (lv_at hl 4 rfl) ?_
      refine lv_iconst (v := 1) hx hb d_RL_init_50 (by decide) ?_
      refine lv_iadd hx hb d_RL_init_51 ?_
      refine lv_aload_n hx hb d_RL_init_52 rfl (lv_at hl 3 rfl) ?_
      refine qc_len (k := 1) (i := 0) (q := 1) (x := nI (qa_n y)) E hC Nat.one_pos rfl (by omega) (qc_mc (P := fun z => z ≠ 1) (show (2 + 6 * qa_n y : Nat) ≠ 1 by omega) (qc_mc (P := fun z => z ≠ 1) (show (0 : Nat) ≠ 1 by omega) (qc_m0 (P := fun z => z ≠ 1)))) rfl rfl d_RL_init_53 ?_
      refine qc_mna E hC (qa_m1 105 (by decide +kernel) rfl) (by omega) (nI_1 _) rfl (fun _ => rfl) (by simp only [qc_R] <;> omega) (by simp only [qc_R] <;> omega) d_RL_init_54 (fun H hC => ?_)
      have hC : qc_C y (qc_v (qa_n y)) (6 + 6 * qa_n y + qa_m y) ((2 + 6 * qa_n y, .inr (2, [.ref (qa_a y 1 0), .int (nI (qa_m y)), .ref (qa_a y 9 0), .null, .int 0, .int 0, .int 0, .int 0])) :: (0, e0) :: []) s _ _ := hC
      refine qc_put (k := 8) (i := 0) (f := 3) E hC rfl rfl (by decide) f_RL_23 rfl (Or.inr ⟨rfl, hnm, rfl⟩) rfl rfl rfl (Nat.le_of_ble_eq_true rfl) d_RL_init_58 (fun H locs hC => ?_)
      have hC : qc_C y (qc_v (qa_n y)) (6 + 6 * qa_n y + qa_m y) ((2 + 6 * qa_n y, .inr (2, [.ref (qa_a y 1 0), .int (nI (qa_m y)), .ref (qa_a y 9 0), .ref (qa_a y 10 0), .int 0, .int 0, .int 0, .int 0])) :: (0, e0) :: []) s _ _ := hC
      have hC : qc_C y (qc_v (qa_n y)) (6 + 6 * qa_n y + qa_m y) ((0, e0) :: []) s _ _ := ⟨hC.1.drop (qc_mc (P := fun z => z ≠ 2 + 6 * qa_n y) (show (0 : Nat) ≠ 2 + 6 * qa_n y by omega) (qc_m0 (P := fun z => z ≠ 2 + 6 * qa_n y))) (fun h => by rw [qc_G_at (y := y) (k := 8) (i := 0) (q := 2 + 6 * qa_n y) Nat.one_pos rfl]; exact h), hC.2⟩
      exact qc_vret E hC hr hlocks (by omega) (by omega) d_RL_init_61
    | succ d ih =>
      intro k H locs ls hkd hC hl
      have hk : k < qa_m y := by omega
      refine lv_iload hx hb d_RL_init_19 (lv_at hl 0 rfl) ?_
      refine lv_iload_n hx hb d_RL_init_21 rfl (lv_at hl 4 rfl) ?_
      refine lv_icmp_ge hx hb d_RL_init_22 rfl (fun h9 => absurd h9 (nI_ge hk (by omega))) (fun _ => ?_)
      refine lv_iload_n hx hb d_RL_init_25 rfl (lv_at hl 1 rfl) ?_
      refine lv_aload_n hx hb d_RL_init_26 rfl (lv_at hl 3 rfl) ?_
      refine qc_len (k := 1) (i := 0) (q := 1) (x := nI (qa_n y)) E hC Nat.one_pos rfl (by omega) (qc_mc (P := fun z => z ≠ 1) (show (2 + 6 * qa_n y : Nat) ≠ 1 by omega) (qc_mc (P := fun z => z ≠ 1) (show (0 : Nat) ≠ 1 by omega) (qc_m0 (P := fun z => z ≠ 1)))) rfl rfl d_RL_init_27 ?_
      refine lv_imul hx hb d_RL_init_28 ?_
      refine lv_iconst (v := 1) hx hb d_RL_init_29 (by decide) ?_
      refine lv_iadd hx hb d_RL_init_30 ?_
      refine W.eq (g2 := F0 m 31 ls [.int (nI (qc_rw (qa_n y) (k + 1)))]) (by rw [show nI (qc_rw (qa_n y) k) * nI (qa_n y) + 1 = nI (qc_rw (qa_n y) (k + 1)) from qn_add (qn_mul rfl rfl) rfl]) ?_
      refine lv_istore_n hx hb d_RL_init_31 rfl hl (by decide) rfl (fun ls hl => ?_)
      have hl : lv_has ls 5 [(3, .int (nI (qc_rw (qa_n y) (k + 1)))), (4, .int (nI k)), (0, .ref (qa_a y 8 0)), (1, .ref (qa_a y 1 0)), (2, .int (nI (qa_m y)))] := hl
      refine lv_iinc (v := nI (k + 1)) hx hb d_RL_init_32 hl (k := 1) rfl (nI_1 k) (by decide) rfl (fun ls hl => ?_)
      have hl : lv_has ls 5 [(4, .int (nI (k + 1))), (3, .int (nI (qc_rw (qa_n y) (k + 1)))), (0, .ref (qa_a y 8 0)), (1, .ref (qa_a y 1 0)), (2, .int (nI (qa_m y)))] := hl
      refine lv_goto hx hb d_RL_init_35 rfl ?_
      exact ih (k + 1) H locs ls (by omega) hC (lv_sub hl [0, 1, 2, 3, 4] rfl)
  exact loop (qa_m y) 0 _ _ ls (by omega) hC (lv_sub hl [0, 1, 2, 3, 4] rfl)

set_option maxHeartbeats 4000000 in
set_option maxRecDepth 100000 in
theorem c_VF_madeNodes (l : Launch) (y : qa_L) (e0 : va_E) : qc_Mr l y_VF_madeNodes b_VF_madeNodes 3 (some (.array (.object "VotedFrames$Node"))) 2 43 336 [.int (nI (qa_n y))] y (qc_v (qa_n y)) (1) ((0, e0) :: []) (2 + 6 * qa_n y) ((0, e0) :: []) (qa_a y 1 0) := by
  refine qc_ofMr (plainFor_of_name (by decide)) (Nat.le_of_ble_eq_true rfl) ?_
  intro p e s m below meth c ls E hr hlocks hC hl
  have E : qc_E p m c b_VF_madeNodes 3 s _ "VotedFrames" y := E
  have F := E.1.1
  have hx := F.1
  have hb := F.2.1
  have hn4 : 4 ≤ qa_n y := E.1.2.1.2.2.1
  have hn7 : qa_n y ≤ 7 := E.1.2.1.2.2.2.1
  have hm3 : 3 * qa_m y < qa_n y := E.1.2.1.2.2.2.2.1
  have hl : lv_has ls 3 [(0, .int (nI (qa_n y)))] := hl
  have hC : qc_C y (qc_v (qa_n y)) (1) ((0, e0) :: []) s s.heap [] := hC
  refine lv_iload_n hx hb d_VF_madeNodes_0 rfl (lv_at hl 0 rfl) ?_
  refine qc_newq (k := 1) (i := 0) (t0 := 1) (N := qa_n y) (cap := 7) E hC E.2.2.1 rfl rfl rfl (by omega) (qa_m1 32 (by decide +kernel) rfl) (by omega) (by simp only [qc_R] <;> omega) (by simp only [qc_R] <;> omega) d_VF_madeNodes_1 (fun H hC => ?_)
  have hC : qc_C y (qc_v (qa_n y)) (1 + 1) ((1, .inl (qa_c y 1, (qa_n y, .inr (.inr (.inr (.inr (fun _ => none))))))) :: (0, e0) :: []) s _ _ := hC
  refine lv_astore_n hx hb d_VF_madeNodes_4 rfl hl (by decide) rfl (fun ls hl => ?_)
  have hl : lv_has ls 3 [(1, .ref (qa_a y 1 0)), (0, .int (nI (qa_n y)))] := hl
  refine lv_iconst (v := 0) hx hb d_VF_madeNodes_5 (by decide) ?_
  refine lv_istore_n hx hb d_VF_madeNodes_6 rfl hl (by decide) rfl (fun ls hl => ?_)
  have hl : lv_has ls 3 [(2, .int 0), (1, .ref (qa_a y 1 0)), (0, .int (nI (qa_n y)))] := hl
  have loop : ∀ (d k : Nat) (H : Heap) (locs : List Loc) (ls : Array Slot), k + d = qa_n y → qc_C y (qc_v (qa_n y)) (2 + 6 * k) ((1, .inl (qa_c y 1, (qa_n y, .inr (.inr (.inr (.inr (fun j => if j < k then some (qa_a y 2 j) else none))))))) :: (0, e0) :: []) s H locs → lv_has ls 3 [(2, .int (nI k)), (0, .int (nI (qa_n y))), (1, .ref (qa_a y 1 0))] → W p l e (qc_R 2 43 336) s m [.int (nI (qa_n y))].toArray below meth c H locs (1 + 6 * k) (7 + 47 * k) (MQ below (va_Qr (fun _ : Unit => True) (fun _ b U => b = qa_a y 1 0 ∧ qc_W y (qc_v (qa_n y)) (2 + 6 * qa_n y) ((0, e0) :: []) U) (qc_A y)) [.int (nI (qa_n y))].toArray s 43 336 (qc_A y)) (F0 m 7 ls []) := by
    intro d
    induction d with
    | zero =>
      intro k H locs ls hkd hC hl
      obtain rfl : qa_n y = k := by omega
      refine lv_iload_n hx hb d_VF_madeNodes_7 rfl (lv_at hl 0 rfl) ?_
      refine lv_iload_n hx hb d_VF_madeNodes_8 rfl (lv_at hl 1 rfl) ?_
      refine lv_icmp_ge hx hb d_VF_madeNodes_9 rfl (fun _ => ?_) (fun h9 => absurd (nI_le (Nat.le_refl _) (by omega)) h9)
      refine lv_aload_n hx hb d_VF_madeNodes_30 rfl (lv_at hl 2 rfl) ?_
      have hC : qc_C y (qc_v (qa_n y)) (2 + 6 * qa_n y) ((0, e0) :: []) s _ _ := ⟨hC.1.drop (qc_mc (P := fun z => z ≠ 1) (show (0 : Nat) ≠ 1 by omega) (qc_m0 (P := fun z => z ≠ 1))) (fun h => by rw [qc_G_at (y := y) (k := 1) (i := 0) (q := 1) Nat.one_pos rfl]; exact qc_full h), hC.2⟩
      exact qc_aret E hC hr (Or.inr ⟨_, rfl⟩) hlocks (by omega) (by omega) d_VF_madeNodes_31
    | succ d ih =>
      intro k H locs ls hkd hC hl
      have hk : k < qa_n y := by omega
      refine lv_iload_n hx hb d_VF_madeNodes_7 rfl (lv_at hl 0 rfl) ?_
      refine lv_iload_n hx hb d_VF_madeNodes_8 rfl (lv_at hl 1 rfl) ?_
      refine lv_icmp_ge hx hb d_VF_madeNodes_9 rfl (fun h9 => absurd h9 (nI_ge hk (by omega))) (fun _ => ?_)
      refine lv_aload_n hx hb d_VF_madeNodes_12 rfl (lv_at hl 2 rfl) ?_
      refine lv_iload_n hx hb d_VF_madeNodes_13 rfl (lv_at hl 0 rfl) ?_
      refine qc_new (k := 2) (i := k) (ci := 1) (fs := [.int 0, .null, .null, .null, .null, .null, .int 0, .int 0, .int 0, .int 0, .int 0, .int 0, .int 0, .int 0, .int 0]) E hC rfl rfl t_ND t_ND_ok (qa_m1 32 (by decide +kernel) rfl) (qa_m1 34 (by decide +kernel) rfl) (qa_m1 3 (by decide +kernel) rfl) (fun j hj => by rcases (show j = 0 ∨ j = 1 ∨ j = 2 ∨ j = 3 ∨ j = 4 ∨ j = 5 ∨ j = 6 ∨ j = 7 ∨ j = 8 ∨ j = 9 ∨ j = 10 ∨ j = 11 ∨ j = 12 ∨ j = 13 ∨ j = 14 by omega) with rfl | rfl | rfl | rfl | rfl | rfl | rfl | rfl | rfl | rfl | rfl | rfl | rfl | rfl | rfl <;> rfl) (by simp only [qc_R] <;> omega) (by simp only [qc_R] <;> omega) d_VF_madeNodes_14 (fun H hC => ?_)
      have hC : qc_C y (qc_v (qa_n y)) (2 + 6 * k + 1) ((2 + 6 * k, .inr (1, [.int 0, .null, .null, .null, .null, .null, .int 0, .int 0, .int 0, .int 0, .int 0, .int 0, .int 0, .int 0, .int 0])) :: (1, .inl (qa_c y 1, (qa_n y, .inr (.inr (.inr (.inr (fun j => if j < k then some (qa_a y 2 j) else none))))))) :: (0, e0) :: []) s _ _ := hC
      refine lv_dup hx hb d_VF_madeNodes_17 rfl ?_
      refine lv_iload_n hx hb d_VF_madeNodes_18 rfl (lv_at hl 0 rfl) ?_
      refine lv_iload_n hx hb d_VF_madeNodes_19 rfl (lv_at hl 1 rfl) ?_
      have hC : qc_C y (qc_v (qa_n y)) (3 + 6 * k) ((2 + 6 * k, .inr (1, [.int 0, .null, .null, .null, .null, .null, .int 0, .int 0, .int 0, .int 0, .int 0, .int 0, .int 0, .int 0, .int 0])) :: (1, .inl (qa_c y 1, (qa_n y, .inr (.inr (.inr (.inr (fun j => if j < k then some (qa_a y 2 j) else none))))))) :: (0, e0) :: []) s _ _ := hC.cast (by omega)
      refine qc_cI (As := [.int (nI k), .int (nI (qa_n y))]) E hC (c_ND_init l y k hk _ (qc_mc (P := fun z => z < 2 + 6 * k) (show (1 : Nat) < 2 + 6 * k by omega) (qc_mc (P := fun z => z < 2 + 6 * k) (show (0 : Nat) < 2 + 6 * k by omega) (qc_m0 (P := fun z => z < 2 + 6 * k))))) (show qc_LI "VotedFrames" 168 y_ND_init b_ND_init 3 2 from ⟨(qa_m1 35 (by decide +kernel) rfl), (qa_m1 36 (by decide +kernel) rfl), (qa_m1 3 (by decide +kernel) rfl), w_ND_init, rfl, ⟨by decide, by decide, by decide +kernel⟩⟩) ⟨Nat.le_of_ble_eq_true rfl, Nat.le_of_ble_eq_true rfl, (by simp only [qc_R] <;> omega), (by simp only [qc_R] <;> omega)⟩ rfl hl.1 rfl (Nat.le_of_ble_eq_true rfl) d_VF_madeNodes_20 (fun H locs hC => ?_)
      have hC : qc_C y (qc_v (qa_n y)) (8 + 6 * k) ((1, .inl (qa_c y 1, (qa_n y, .inr (.inr (.inr (.inr (fun j => if j < k then some (qa_a y 2 j) else none))))))) :: (0, e0) :: []) s _ _ := hC
      refine qc_ast (k := 1) (i := 0) (t0 := 1) (j := k) (k2 := 2) (i2 := k) (q2 := 2 + 6 * k) (ci := 1) E hC rfl rfl hk rfl (by omega) ⟨by omega, (qc_mc (P := fun z => z ≠ 2 + 6 * k) (show (0 : Nat) ≠ 2 + 6 * k by omega) (qc_m0 (P := fun z => z ≠ 2 + 6 * k)))⟩ rfl rfl rfl (by omega) (by omega) d_VF_madeNodes_23 (fun H locs hC => ?_)
      have hC : qc_C y (qc_v (qa_n y)) (8 + 6 * k) ((1, .inl (qa_c y 1, (qa_n y, .inr (.inr (.inr (.inr (va_up (fun j => if j < k then some (qa_a y 2 j) else none) k (some (qa_a y 2 k))))))))) :: (0, e0) :: []) s _ _ := hC
      refine lv_iinc (v := nI (k + 1)) hx hb d_VF_madeNodes_24 hl (k := 0) rfl (nI_1 k) (by decide) rfl (fun ls hl => ?_)
      have hl : lv_has ls 3 [(2, .int (nI (k + 1))), (0, .int (nI (qa_n y))), (1, .ref (qa_a y 1 0))] := hl
      refine lv_goto hx hb d_VF_madeNodes_27 rfl ?_
      rw [qc_upk (g := qa_a y 2)] at hC
      have hC : qc_C y (qc_v (qa_n y)) (8 + 6 * k) ((1, .inl (qa_c y 1, (qa_n y, .inr (.inr (.inr (.inr (fun j => if j < k + 1 then some (qa_a y 2 j) else none))))))) :: (0, e0) :: []) s _ _ := hC
      have hC : qc_C y (qc_v (qa_n y)) (2 + 6 * (k + 1)) ((1, .inl (qa_c y 1, (qa_n y, .inr (.inr (.inr (.inr (fun j => if j < k + 1 then some (qa_a y 2 j) else none))))))) :: (0, e0) :: []) s _ _ := hC.cast (by omega)
      exact W.widen (by omega) (by omega) (ih (k + 1) _ _ ls (by omega) hC (lv_sub hl [0, 1, 2] rfl))
  rw [qc_none (g := qa_a y 2)] at hC
  have hC : qc_C y (qc_v (qa_n y)) (1 + 1) ((1, .inl (qa_c y 1, (qa_n y, .inr (.inr (.inr (.inr (fun j => if j < 0 then some (qa_a y 2 j) else none))))))) :: (0, e0) :: []) s _ _ := hC
  have hC : qc_C y (qc_v (qa_n y)) (2 + 6 * 0) ((1, .inl (qa_c y 1, (qa_n y, .inr (.inr (.inr (.inr (fun j => if j < 0 then some (qa_a y 2 j) else none))))))) :: (0, e0) :: []) s _ _ := hC.cast (by omega)
  exact W.widen (by omega) (by omega) (loop (qa_n y) 0 _ _ ls (by omega) hC (lv_sub hl [0, 2, 1] rfl))

set_option maxHeartbeats 4000000 in
set_option maxRecDepth 100000 in
theorem c_VF_madeTasks (l : Launch) (y : qa_L) (e0 : va_E) : qc_Mr l y_VF_madeTasks b_VF_madeTasks 2 (some (.array (.object "VotedFrames$Task"))) 2 13 120 [] y (qc_v (qa_n y)) (6 + 6 * qa_n y + qa_m y) ((0, e0) :: []) (7 + 6 * qa_n y + qa_m y + 3 * 4) ((0, e0) :: []) (qa_a y 12 0) := by
  refine qc_ofMr (plainFor_of_name (by decide)) (Nat.le_of_ble_eq_true rfl) ?_
  intro p e s m below meth c ls E hr hlocks hC hl
  have E : qc_E p m c b_VF_madeTasks 2 s _ "VotedFrames" y := E
  have F := E.1.1
  have hx := F.1
  have hb := F.2.1
  have hn4 : 4 ≤ qa_n y := E.1.2.1.2.2.1
  have hn7 : qa_n y ≤ 7 := E.1.2.1.2.2.2.1
  have hm3 : 3 * qa_m y < qa_n y := E.1.2.1.2.2.2.2.1
  have hl : lv_has ls 2 [] := hl
  have hC : qc_C y (qc_v (qa_n y)) (6 + 6 * qa_n y + qa_m y) ((0, e0) :: []) s s.heap [] := hC
  refine lv_iconst (v := 4) hx hb d_VF_madeTasks_0 (by decide) ?_
  refine qc_newq (k := 12) (i := 0) (t0 := 2) (N := 4) (cap := 4) E hC E.2.2.2.1 rfl rfl rfl (by omega) (qa_m1 135 (by decide +kernel) rfl) (by omega) (by simp only [qc_R] <;> omega) (by simp only [qc_R] <;> omega) d_VF_madeTasks_1 (fun H hC => ?_)
  have hC : qc_C y (qc_v (qa_n y)) (6 + 6 * qa_n y + qa_m y + 1) ((6 + 6 * qa_n y + qa_m y, .inl (qa_c y 2, (4, .inr (.inr (.inr (.inr (fun _ => none))))))) :: (0, e0) :: []) s _ _ := hC
  refine lv_astore_n hx hb d_VF_madeTasks_4 rfl hl (by decide) rfl (fun ls hl => ?_)
  have hl : lv_has ls 2 [(0, .ref (qa_a y 12 0))] := hl
  refine lv_iconst (v := 0) hx hb d_VF_madeTasks_5 (by decide) ?_
  refine lv_istore_n hx hb d_VF_madeTasks_6 rfl hl (by decide) rfl (fun ls hl => ?_)
  have hl : lv_has ls 2 [(1, .int 0), (0, .ref (qa_a y 12 0))] := hl
  have loop : ∀ (d k : Nat) (H : Heap) (locs : List Loc) (ls : Array Slot), k + d = 4 → qc_C y (qc_v (qa_n y)) (7 + 6 * qa_n y + qa_m y + 3 * k) ((6 + 6 * qa_n y + qa_m y, .inl (qa_c y 2, (4, .inr (.inr (.inr (.inr (fun j => if j < k then some (qa_a y 13 j) else none))))))) :: (0, e0) :: []) s H locs → lv_has ls 2 [(1, .int (nI k)), (0, .ref (qa_a y 12 0))] → W p l e (qc_R 2 13 120) s m [].toArray below meth c H locs (1 + 3 * k) (4 + 29 * k) (MQ below (va_Qr (fun _ : Unit => True) (fun _ b U => b = qa_a y 12 0 ∧ qc_W y (qc_v (qa_n y)) (7 + 6 * qa_n y + qa_m y + 3 * 4) ((0, e0) :: []) U) (qc_A y)) [].toArray s 13 120 (qc_A y)) (F0 m 7 ls []) := by
    intro d
    induction d with
    | zero =>
      intro k H locs ls hkd hC hl
      obtain rfl : 4 = k := by omega
      refine lv_iload_n hx hb d_VF_madeTasks_7 rfl (lv_at hl 0 rfl) ?_
      refine lv_iconst (v := 4) hx hb d_VF_madeTasks_8 (by decide) ?_
      refine lv_icmp_ge hx hb d_VF_madeTasks_9 rfl (fun _ => ?_) (fun h9 => absurd (show (4 : Int32) ≤ nI 4 by decide) h9)
      refine lv_aload_n hx hb d_VF_madeTasks_28 rfl (lv_at hl 1 rfl) ?_
      have hC : qc_C y (qc_v (qa_n y)) (7 + 6 * qa_n y + qa_m y + 3 * 4) ((0, e0) :: []) s _ _ := ⟨hC.1.drop (qc_mc (P := fun z => z ≠ 6 + 6 * qa_n y + qa_m y) (show (0 : Nat) ≠ 6 + 6 * qa_n y + qa_m y by omega) (qc_m0 (P := fun z => z ≠ 6 + 6 * qa_n y + qa_m y))) (fun h => by rw [qc_G_at (y := y) (k := 12) (i := 0) (q := 6 + 6 * qa_n y + qa_m y) Nat.one_pos rfl]; exact qc_full h), hC.2⟩
      exact qc_aret E hC hr (Or.inr ⟨_, rfl⟩) hlocks (by omega) (by omega) d_VF_madeTasks_29
    | succ d ih =>
      intro k H locs ls hkd hC hl
      have hk : k < 4 := by omega
      refine lv_iload_n hx hb d_VF_madeTasks_7 rfl (lv_at hl 0 rfl) ?_
      refine lv_iconst (v := 4) hx hb d_VF_madeTasks_8 (by decide) ?_
      refine lv_icmp_ge hx hb d_VF_madeTasks_9 rfl (fun h9 => absurd h9 (show ¬ (4 : Int32) ≤ nI k from nI_ge (b := 4) hk (by decide))) (fun _ => ?_)
      refine lv_aload_n hx hb d_VF_madeTasks_12 rfl (lv_at hl 1 rfl) ?_
      refine lv_iload_n hx hb d_VF_madeTasks_13 rfl (lv_at hl 0 rfl) ?_
      refine qc_new (k := 13) (i := k) (ci := 3) (fs := [.null, .null, .int 0, .int 0, .int 0]) E hC rfl rfl t_TK t_TK_ok (qa_m1 135 (by decide +kernel) rfl) (qa_m1 137 (by decide +kernel) rfl) (qa_m1 5 (by decide +kernel) rfl) (fun j hj => by rcases (show j = 0 ∨ j = 1 ∨ j = 2 ∨ j = 3 ∨ j = 4 by omega) with rfl | rfl | rfl | rfl | rfl <;> rfl) (by simp only [qc_R] <;> omega) (by simp only [qc_R] <;> omega) d_VF_madeTasks_14 (fun H hC => ?_)
      have hC : qc_C y (qc_v (qa_n y)) (7 + 6 * qa_n y + qa_m y + 3 * k + 1) ((7 + 6 * qa_n y + qa_m y + 3 * k, .inr (3, [.null, .null, .int 0, .int 0, .int 0])) :: (6 + 6 * qa_n y + qa_m y, .inl (qa_c y 2, (4, .inr (.inr (.inr (.inr (fun j => if j < k then some (qa_a y 13 j) else none))))))) :: (0, e0) :: []) s _ _ := hC
      refine lv_dup hx hb d_VF_madeTasks_17 rfl ?_
      have hC : qc_C y (qc_v (qa_n y)) (8 + 6 * qa_n y + qa_m y + 3 * k) ((7 + 6 * qa_n y + qa_m y + 3 * k, .inr (3, [.null, .null, .int 0, .int 0, .int 0])) :: (6 + 6 * qa_n y + qa_m y, .inl (qa_c y 2, (4, .inr (.inr (.inr (.inr (fun j => if j < k then some (qa_a y 13 j) else none))))))) :: (0, e0) :: []) s _ _ := hC.cast (by omega)
      refine qc_cIN (As := []) E hC (c_TK_init l y k hk _ (qc_mc (P := fun z => z < 7 + 6 * qa_n y + qa_m y + 3 * k) (show (6 + 6 * qa_n y + qa_m y : Nat) < 7 + 6 * qa_n y + qa_m y + 3 * k by omega) (qc_mc (P := fun z => z < 7 + 6 * qa_n y + qa_m y + 3 * k) (show (0 : Nat) < 7 + 6 * qa_n y + qa_m y + 3 * k by omega) (qc_m0 (P := fun z => z < 7 + 6 * qa_n y + qa_m y + 3 * k))))) (show qc_LIN "VotedFrames" 171 y_TK_init "VotedFrames" b_TK_init 1 0 from ⟨List.mem_of_getElem? (i := 0) rfl, (qa_m1 139 (by decide +kernel) rfl), (qa_m1 5 (by decide +kernel) rfl), w_TK_init, rfl, ⟨by decide, by decide, by decide +kernel⟩⟩) ⟨Nat.le_of_ble_eq_true rfl, Nat.le_of_ble_eq_true rfl, (by simp only [qc_R] <;> omega), (by simp only [qc_R] <;> omega)⟩ rfl hl.1 rfl (Nat.le_of_ble_eq_true rfl) d_VF_madeTasks_18 (fun H locs hC => ?_)
      have hC : qc_C y (qc_v (qa_n y)) (10 + 6 * qa_n y + qa_m y + 3 * k) ((6 + 6 * qa_n y + qa_m y, .inl (qa_c y 2, (4, .inr (.inr (.inr (.inr (fun j => if j < k then some (qa_a y 13 j) else none))))))) :: (0, e0) :: []) s _ _ := hC
      refine qc_ast (k := 12) (i := 0) (t0 := 2) (j := k) (k2 := 13) (i2 := k) (q2 := 7 + 6 * qa_n y + qa_m y + 3 * k) (ci := 3) E hC rfl rfl hk rfl (by omega) ⟨by omega, (qc_mc (P := fun z => z ≠ 7 + 6 * qa_n y + qa_m y + 3 * k) (show (0 : Nat) ≠ 7 + 6 * qa_n y + qa_m y + 3 * k by omega) (qc_m0 (P := fun z => z ≠ 7 + 6 * qa_n y + qa_m y + 3 * k)))⟩ rfl rfl rfl (by omega) (by omega) d_VF_madeTasks_21 (fun H locs hC => ?_)
      have hC : qc_C y (qc_v (qa_n y)) (10 + 6 * qa_n y + qa_m y + 3 * k) ((6 + 6 * qa_n y + qa_m y, .inl (qa_c y 2, (4, .inr (.inr (.inr (.inr (va_up (fun j => if j < k then some (qa_a y 13 j) else none) k (some (qa_a y 13 k))))))))) :: (0, e0) :: []) s _ _ := hC
      refine lv_iinc (v := nI (k + 1)) hx hb d_VF_madeTasks_22 hl (k := 0) rfl (nI_1 k) (by decide) rfl (fun ls hl => ?_)
      have hl : lv_has ls 2 [(1, .int (nI (k + 1))), (0, .ref (qa_a y 12 0))] := hl
      refine lv_goto hx hb d_VF_madeTasks_25 rfl ?_
      rw [qc_upk (g := qa_a y 13)] at hC
      have hC : qc_C y (qc_v (qa_n y)) (10 + 6 * qa_n y + qa_m y + 3 * k) ((6 + 6 * qa_n y + qa_m y, .inl (qa_c y 2, (4, .inr (.inr (.inr (.inr (fun j => if j < k + 1 then some (qa_a y 13 j) else none))))))) :: (0, e0) :: []) s _ _ := hC
      have hC : qc_C y (qc_v (qa_n y)) (7 + 6 * qa_n y + qa_m y + 3 * (k + 1)) ((6 + 6 * qa_n y + qa_m y, .inl (qa_c y 2, (4, .inr (.inr (.inr (.inr (fun j => if j < k + 1 then some (qa_a y 13 j) else none))))))) :: (0, e0) :: []) s _ _ := hC.cast (by omega)
      exact W.widen (by omega) (by omega) (ih (k + 1) _ _ ls (by omega) hC (lv_sub hl [0, 1] rfl))
  rw [qc_none (g := qa_a y 13)] at hC
  have hC : qc_C y (qc_v (qa_n y)) (6 + 6 * qa_n y + qa_m y + 1) ((6 + 6 * qa_n y + qa_m y, .inl (qa_c y 2, (4, .inr (.inr (.inr (.inr (fun j => if j < 0 then some (qa_a y 13 j) else none))))))) :: (0, e0) :: []) s _ _ := hC
  have hC : qc_C y (qc_v (qa_n y)) (7 + 6 * qa_n y + qa_m y + 3 * 0) ((6 + 6 * qa_n y + qa_m y, .inl (qa_c y 2, (4, .inr (.inr (.inr (.inr (fun j => if j < 0 then some (qa_a y 13 j) else none))))))) :: (0, e0) :: []) s _ _ := hC.cast (by omega)
  exact W.widen (by omega) (by omega) (loop 4 0 _ _ ls (by omega) hC (lv_sub hl [0, 1] rfl))

set_option maxHeartbeats 4000000 in
set_option maxRecDepth 100000 in
theorem c_VF_init (l : Launch) (y : qa_L) (za zb zd : Int32) (hn : qm_max 4 (qm_min 7 za) = nI (qa_n y)) (hm : (if qm_wi zb 0 ((nI (qa_n y) - 1) / 3) = true then zb else (nI (qa_n y) - 1) / 3) = nI (qa_m y)) (hd : qm_max 1 (qm_min 200 zd) = qa_d y) : qc_Mv l y_VF_init b_VF_init 6 3 68 921 [.ref (qa_a y 0 0), .int za, .int zb, .int zd] y (qc_v (qa_n y)) (1) ((0, .inr (0, [.int 0, .int 0, .int 0, .null, .null, .null, .null, .null, .null, .null, .null, .int 0])) :: []) (3 + 6 * qa_n y + qa_m y + 22) ([]) := by
  refine qc_ofMv (plainFor_of_name (by decide)) rfl (Nat.le_of_ble_eq_true rfl) ?_
  intro p e s m below meth c ls E hr hlocks hnm hC hl
  have E : qc_E p m c b_VF_init 6 s _ "VotedFrames" y := E
  have F := E.1.1
  have hx := F.1
  have hb := F.2.1
  have hn4 : 4 ≤ qa_n y := E.1.2.1.2.2.1
  have hn7 : qa_n y ≤ 7 := E.1.2.1.2.2.2.1
  have hm3 : 3 * qa_m y < qa_n y := E.1.2.1.2.2.2.2.1
  have hl : lv_has ls 6 [(0, .ref (qa_a y 0 0)), (1, .int za), (2, .int zb), (3, .int zd)] := hl
  have hC : qc_C y (qc_v (qa_n y)) (1) ((0, .inr (0, [.int 0, .int 0, .int 0, .null, .null, .null, .null, .null, .null, .null, .null, .int 0])) :: []) s s.heap [] := hC
  refine lv_aload_n hx hb d_VF_init_0 rfl (lv_at hl 0 rfl) ?_
  refine qc_obj E (qa_m1 14 (by decide +kernel) rfl) hl.1 (Nat.le_of_ble_eq_true rfl) (Nat.le_of_ble_eq_true rfl) d_VF_init_1 ?_
  refine lv_aload_n hx hb d_VF_init_4 rfl (lv_at hl 0 rfl) ?_
  refine lv_iload_n hx hb d_VF_init_5 rfl (lv_at hl 1 rfl) ?_
  refine lv_iconst (v := 4) hx hb d_VF_init_6 (by decide) ?_
  refine lv_bipush (v := 7) hx hb d_VF_init_7 (by decide) ?_
  refine qa_pT (As := [.int za, .int 4, .int 7]) F (c_VF_clamp l za 4 7) k_VF_9 ⟨Nat.le_of_ble_eq_true rfl, Nat.le_of_ble_eq_true rfl, (by simp only [qc_R] <;> omega), (by simp only [qc_R] <;> omega)⟩ rfl hl.1 rfl (Nat.le_of_ble_eq_true rfl) d_VF_init_9 ?_
  refine W.eq (g2 := F0 m 12 ls [.int (nI (qa_n y)), .ref (qa_a y 0 0)]) (by rw [hn]) ?_
  refine qc_put (k := 0) (i := 0) (f := 0) E hC rfl rfl (by decide) f_VF_13 rfl (Or.inr ⟨rfl, hnm, rfl⟩) rfl rfl rfl (Nat.le_of_ble_eq_true rfl) d_VF_init_12 (fun H locs hC => ?_)
  have hC : qc_C y (qc_v (qa_n y)) (1) ((0, .inr (0, [.int (nI (qa_n y)), .int 0, .int 0, .null, .null, .null, .null, .null, .null, .null, .null, .int 0])) :: []) s _ _ := hC
  refine lv_aload_n hx hb d_VF_init_15 rfl (lv_at hl 0 rfl) ?_
  refine qc_get (k := 0) (i := 0) (f := 0) (val := .int (nI (qa_n y))) E hC rfl rfl (by decide) f_VF_13 rfl rfl d_VF_init_16 ?_
  refine lv_iconst (v := 1) hx hb d_VF_init_19 (by decide) ?_
  refine lv_isub hx hb d_VF_init_20 ?_
  refine lv_iconst (v := 3) hx hb d_VF_init_21 (by decide) ?_
  refine lv_idiv hx hb d_VF_init_22 (by decide) ?_
  refine lv_istore hx hb d_VF_init_23 hl (by decide) rfl (fun ls hl => ?_)
  have hl : lv_has ls 6 [(4, .int (((nI (qa_n y)) - 1) / 3)), (0, .ref (qa_a y 0 0)), (1, .int za), (2, .int zb), (3, .int zd)] := hl
  refine lv_aload_n hx hb d_VF_init_25 rfl (lv_at hl 1 rfl) ?_
  refine lv_iload_n hx hb d_VF_init_26 rfl (lv_at hl 3 rfl) ?_
  refine lv_iconst (v := 0) hx hb d_VF_init_27 (by decide) ?_
  refine lv_iload hx hb d_VF_init_28 (lv_at hl 0 rfl) ?_
  refine qa_pT (As := [.int zb, .int 0, .int (((nI (qa_n y)) - 1) / 3)]) F (c_VF_within l zb 0 (((nI (qa_n y)) - 1) / 3)) k_VF_17 ⟨Nat.le_of_ble_eq_true rfl, Nat.le_of_ble_eq_true rfl, (by simp only [qc_R] <;> omega), (by simp only [qc_R] <;> omega)⟩ rfl hl.1 rfl (Nat.le_of_ble_eq_true rfl) d_VF_init_30 ?_
  refine lv_if_eq hx hb d_VF_init_33 rfl (fun h33 => ?_) (fun h33 => ?_)
  · refine lv_iload hx hb d_VF_init_40 (lv_at hl 0 rfl) ?_
    refine W.eq (g2 := F0 m 42 ls [.int (nI (qa_m y)), .ref (qa_a y 0 0)]) (by rw [← hm, if_neg (by rw [qb_e0 h33]; exact Bool.false_ne_true)]) ?_
    refine qc_put (k := 0) (i := 0) (f := 1) E hC rfl rfl (by decide) f_VF_21 rfl (Or.inr ⟨rfl, hnm, rfl⟩) rfl rfl rfl (Nat.le_of_ble_eq_true rfl) d_VF_init_42 (fun H locs hC => ?_)
    have hC : qc_C y (qc_v (qa_n y)) (1) ((0, .inr (0, [.int (nI (qa_n y)), .int (nI (qa_m y)), .int 0, .null, .null, .null, .null, .null, .null, .null, .null, .int 0])) :: []) s _ _ := hC
    refine lv_aload_n hx hb d_VF_init_45 rfl (lv_at hl 1 rfl) ?_
    refine lv_iload_n hx hb d_VF_init_46 rfl (lv_at hl 4 rfl) ?_
    refine lv_iconst (v := 1) hx hb d_VF_init_47 (by decide) ?_
    refine lv_sipush (v := 200) hx hb d_VF_init_48 (by decide) ?_
    refine qa_pT (As := [.int zd, .int 1, .int 200]) F (c_VF_clamp l zd 1 200) k_VF_9 ⟨Nat.le_of_ble_eq_true rfl, Nat.le_of_ble_eq_true rfl, (by simp only [qc_R] <;> omega), (by simp only [qc_R] <;> omega)⟩ rfl hl.1 rfl (Nat.le_of_ble_eq_true rfl) d_VF_init_51 ?_
    refine W.eq (g2 := F0 m 54 ls [.int (qa_d y), .ref (qa_a y 0 0)]) (by rw [hd]) ?_
    refine qc_put (k := 0) (i := 0) (f := 2) E hC rfl rfl (by decide) f_VF_24 rfl (Or.inr ⟨rfl, hnm, rfl⟩) rfl rfl rfl (Nat.le_of_ble_eq_true rfl) d_VF_init_54 (fun H locs hC => ?_)
    have hC : qc_C y (qc_v (qa_n y)) (1) ((0, .inr (0, [.int (nI (qa_n y)), .int (nI (qa_m y)), .int (qa_d y), .null, .null, .null, .null, .null, .null, .null, .null, .int 0])) :: []) s _ _ := hC
    refine lv_aload_n hx hb d_VF_init_57 rfl (lv_at hl 1 rfl) ?_
    refine qc_get (k := 0) (i := 0) (f := 0) (val := .int (nI (qa_n y))) E hC rfl rfl (by decide) f_VF_13 rfl rfl d_VF_init_58 ?_
    refine qc_cR (As := [.int (nI (qa_n y))]) E hC (c_VF_madeNodes l y _) k_VF_27 ⟨Nat.le_of_ble_eq_true rfl, Nat.le_of_ble_eq_true rfl, (by simp only [qc_R] <;> omega), (by simp only [qc_R] <;> omega)⟩ rfl hl.1 rfl (Nat.le_of_ble_eq_true rfl) d_VF_init_61 (fun H locs hC => ?_)
    have hC : qc_C y (qc_v (qa_n y)) (2 + 6 * qa_n y) ((0, .inr (0, [.int (nI (qa_n y)), .int (nI (qa_m y)), .int (qa_d y), .null, .null, .null, .null, .null, .null, .null, .null, .int 0])) :: []) s _ _ := hC
    refine lv_astore hx hb d_VF_init_64 hl (by decide) rfl (fun ls hl => ?_)
    have hl : lv_has ls 6 [(5, .ref (qa_a y 1 0)), (4, .int (((nI (qa_n y)) - 1) / 3)), (0, .ref (qa_a y 0 0)), (1, .int za), (2, .int zb), (3, .int zd)] := hl
    refine lv_aload_n hx hb d_VF_init_66 rfl (lv_at hl 2 rfl) ?_
    refine lv_aload hx hb d_VF_init_67 (lv_at hl 0 rfl) ?_
    refine qc_put (k := 0) (i := 0) (f := 3) E hC rfl rfl (by decide) f_VF_31 rfl (Or.inr ⟨rfl, hnm, rfl⟩) rfl rfl rfl (Nat.le_of_ble_eq_true rfl) d_VF_init_69 (fun H locs hC => ?_)
    have hC : qc_C y (qc_v (qa_n y)) (2 + 6 * qa_n y) ((0, .inr (0, [.int (nI (qa_n y)), .int (nI (qa_m y)), .int (qa_d y), .ref (qa_a y 1 0), .null, .null, .null, .null, .null, .null, .null, .int 0])) :: []) s _ _ := hC
    refine lv_aload_n hx hb d_VF_init_72 rfl (lv_at hl 2 rfl) ?_
    refine qc_new (k := 8) (i := 0) (ci := 2) (fs := [.null, .int 0, .null, .null, .int 0, .int 0, .int 0, .int 0]) E hC rfl rfl t_RL t_RL_ok (qa_m1 99 (by decide +kernel) rfl) (qa_m1 100 (by decide +kernel) rfl) (qa_m1 4 (by decide +kernel) rfl) (fun j hj => by rcases (show j = 0 ∨ j = 1 ∨ j = 2 ∨ j = 3 ∨ j = 4 ∨ j = 5 ∨ j = 6 ∨ j = 7 by omega) with rfl | rfl | rfl | rfl | rfl | rfl | rfl | rfl <;> rfl) (by simp only [qc_R] <;> omega) (by simp only [qc_R] <;> omega) d_VF_init_73 (fun H hC => ?_)
    have hC : qc_C y (qc_v (qa_n y)) (2 + 6 * qa_n y + 1) ((2 + 6 * qa_n y, .inr (2, [.null, .int 0, .null, .null, .int 0, .int 0, .int 0, .int 0])) :: (0, .inr (0, [.int (nI (qa_n y)), .int (nI (qa_m y)), .int (qa_d y), .ref (qa_a y 1 0), .null, .null, .null, .null, .null, .null, .null, .int 0])) :: []) s _ _ := hC
    refine lv_dup hx hb d_VF_init_76 rfl ?_
    refine lv_aload hx hb d_VF_init_77 (lv_at hl 0 rfl) ?_
    refine lv_aload_n hx hb d_VF_init_79 rfl (lv_at hl 2 rfl) ?_
    refine qc_get (k := 0) (i := 0) (f := 1) (val := .int (nI (qa_m y))) E (show qc_C y (qc_v (qa_n y)) (2 + 6 * qa_n y + 1) ((0, .inr (0, [.int (nI (qa_n y)), .int (nI (qa_m y)), .int (qa_d y), .ref (qa_a y 1 0), .null, .null, .null, .null, .null, .null, .null, .int 0])) :: (2 + 6 * qa_n y, .inr (2, [.null, .int 0, .null, .null, .int 0, .int 0, .int 0, .int 0])) :: []) s _ _ from ⟨hC.1.swap (show (2 + 6 * qa_n y : Nat) ≠ 0 by omega), hC.2⟩) rfl rfl (by decide) f_VF_21 rfl rfl d_VF_init_80 ?_
    have hC : qc_C y (qc_v (qa_n y)) (3 + 6 * qa_n y) ((2 + 6 * qa_n y, .inr (2, [.null, .int 0, .null, .null, .int 0, .int 0, .int 0, .int 0])) :: (0, .inr (0, [.int (nI (qa_n y)), .int (nI (qa_m y)), .int (qa_d y), .ref (qa_a y 1 0), .null, .null, .null, .null, .null, .null, .null, .int 0])) :: []) s _ _ := hC.cast (by omega)
    refine qc_cI (As := [.ref (qa_a y 1 0), .int (nI (qa_m y))]) E hC (c_RL_init l y _) (show qc_LI "VotedFrames" 37 y_RL_init b_RL_init 5 2 from ⟨(qa_m1 101 (by decide +kernel) rfl), (qa_m1 102 (by decide +kernel) rfl), (qa_m1 4 (by decide +kernel) rfl), w_RL_init, rfl, ⟨by decide, by decide, by decide +kernel⟩⟩) ⟨Nat.le_of_ble_eq_true rfl, Nat.le_of_ble_eq_true rfl, (by simp only [qc_R] <;> omega), (by simp only [qc_R] <;> omega)⟩ rfl hl.1 rfl (Nat.le_of_ble_eq_true rfl) d_VF_init_83 (fun H locs hC => ?_)
    have hC : qc_C y (qc_v (qa_n y)) (6 + 6 * qa_n y + qa_m y) ((0, .inr (0, [.int (nI (qa_n y)), .int (nI (qa_m y)), .int (qa_d y), .ref (qa_a y 1 0), .null, .null, .null, .null, .null, .null, .null, .int 0])) :: []) s _ _ := hC
    refine qc_put (k := 0) (i := 0) (f := 4) E hC rfl rfl (by decide) f_VF_40 rfl (Or.inr ⟨rfl, hnm, rfl⟩) rfl rfl rfl (Nat.le_of_ble_eq_true rfl) d_VF_init_86 (fun H locs hC => ?_)
    have hC : qc_C y (qc_v (qa_n y)) (6 + 6 * qa_n y + qa_m y) ((0, .inr (0, [.int (nI (qa_n y)), .int (nI (qa_m y)), .int (qa_d y), .ref (qa_a y 1 0), .ref (qa_a y 8 0), .null, .null, .null, .null, .null, .null, .int 0])) :: []) s _ _ := hC
    refine lv_aload_n hx hb d_VF_init_89 rfl (lv_at hl 2 rfl) ?_
    refine qc_cR (As := []) E hC (c_VF_madeTasks l y _) k_VF_44 ⟨Nat.le_of_ble_eq_true rfl, Nat.le_of_ble_eq_true rfl, (by simp only [qc_R] <;> omega), (by simp only [qc_R] <;> omega)⟩ rfl hl.1 rfl (Nat.le_of_ble_eq_true rfl) d_VF_init_90 (fun H locs hC => ?_)
    have hC : qc_C y (qc_v (qa_n y)) (7 + 6 * qa_n y + qa_m y + 3 * 4) ((0, .inr (0, [.int (nI (qa_n y)), .int (nI (qa_m y)), .int (qa_d y), .ref (qa_a y 1 0), .ref (qa_a y 8 0), .null, .null, .null, .null, .null, .null, .int 0])) :: []) s _ _ := hC
    refine qc_put (k := 0) (i := 0) (f := 5) E hC rfl rfl (by decide) f_VF_48 rfl (Or.inr ⟨rfl, hnm, rfl⟩) rfl rfl rfl (Nat.le_of_ble_eq_true rfl) d_VF_init_93 (fun H locs hC => ?_)
    have hC : qc_C y (qc_v (qa_n y)) (7 + 6 * qa_n y + qa_m y + 3 * 4) ((0, .inr (0, [.int (nI (qa_n y)), .int (nI (qa_m y)), .int (qa_d y), .ref (qa_a y 1 0), .ref (qa_a y 8 0), .ref (qa_a y 12 0), .null, .null, .null, .null, .null, .int 0])) :: []) s _ _ := hC
    refine lv_aload_n hx hb d_VF_init_96 rfl (lv_at hl 2 rfl) ?_
    have hC : qc_C y (qc_v (qa_n y)) (3 + 6 * qa_n y + qa_m y + 16) ((0, .inr (0, [.int (nI (qa_n y)), .int (nI (qa_m y)), .int (qa_d y), .ref (qa_a y 1 0), .ref (qa_a y 8 0), .ref (qa_a y 12 0), .null, .null, .null, .null, .null, .int 0])) :: []) s _ _ := hC.cast (by omega)
    refine qc_new (k := 16) (i := 0) (ci := 4) (fs := [.null, .int 0]) E hC rfl rfl t_SM t_SM_ok (qa_m1 163 (by decide +kernel) rfl) (qa_m1 164 (by decide +kernel) rfl) (qa_m1 6 (by decide +kernel) rfl) (fun j hj => by rcases (show j = 0 ∨ j = 1 by omega) with rfl | rfl <;> rfl) (by simp only [qc_R] <;> omega) (by simp only [qc_R] <;> omega) d_VF_init_97 (fun H hC => ?_)
    have hC : qc_C y (qc_v (qa_n y)) (3 + 6 * qa_n y + qa_m y + 16 + 1) ((3 + 6 * qa_n y + qa_m y + 16, .inr (4, [.null, .int 0])) :: (0, .inr (0, [.int (nI (qa_n y)), .int (nI (qa_m y)), .int (qa_d y), .ref (qa_a y 1 0), .ref (qa_a y 8 0), .ref (qa_a y 12 0), .null, .null, .null, .null, .null, .int 0])) :: []) s _ _ := hC
    refine lv_dup hx hb d_VF_init_100 rfl ?_
    have hC : qc_C y (qc_v (qa_n y)) (3 + 6 * qa_n y + qa_m y + 17) ((3 + 6 * qa_n y + qa_m y + 16, .inr (4, [.null, .int 0])) :: (0, .inr (0, [.int (nI (qa_n y)), .int (nI (qa_m y)), .int (qa_d y), .ref (qa_a y 1 0), .ref (qa_a y 8 0), .ref (qa_a y 12 0), .null, .null, .null, .null, .null, .int 0])) :: []) s _ _ := hC.cast (by omega)
    refine qc_cIN (As := []) E hC (c_SM_init l y _ (qc_mc (P := fun z => z < 3 + 6 * qa_n y + qa_m y + 16) (show (0 : Nat) < 3 + 6 * qa_n y + qa_m y + 16 by omega) (qc_m0 (P := fun z => z < 3 + 6 * qa_n y + qa_m y + 16)))) (show qc_LIN "VotedFrames" 54 y_SM_init "VotedFrames" b_SM_init 1 0 from ⟨List.mem_of_getElem? (i := 1) rfl, (qa_m1 166 (by decide +kernel) rfl), (qa_m1 6 (by decide +kernel) rfl), w_SM_init, rfl, ⟨by decide, by decide, by decide +kernel⟩⟩) ⟨Nat.le_of_ble_eq_true rfl, Nat.le_of_ble_eq_true rfl, (by simp only [qc_R] <;> omega), (by simp only [qc_R] <;> omega)⟩ rfl hl.1 rfl (Nat.le_of_ble_eq_true rfl) d_VF_init_101 (fun H locs hC => ?_)
    have hC : qc_C y (qc_v (qa_n y)) (3 + 6 * qa_n y + qa_m y + 18) ((0, .inr (0, [.int (nI (qa_n y)), .int (nI (qa_m y)), .int (qa_d y), .ref (qa_a y 1 0), .ref (qa_a y 8 0), .ref (qa_a y 12 0), .null, .null, .null, .null, .null, .int 0])) :: []) s _ _ := hC
    refine qc_put (k := 0) (i := 0) (f := 6) E hC rfl rfl (by decide) f_VF_55 rfl (Or.inr ⟨rfl, hnm, rfl⟩) rfl rfl rfl (Nat.le_of_ble_eq_true rfl) d_VF_init_104 (fun H locs hC => ?_)
    have hC : qc_C y (qc_v (qa_n y)) (3 + 6 * qa_n y + qa_m y + 18) ((0, .inr (0, [.int (nI (qa_n y)), .int (nI (qa_m y)), .int (qa_d y), .ref (qa_a y 1 0), .ref (qa_a y 8 0), .ref (qa_a y 12 0), .ref (qa_a y 16 0), .null, .null, .null, .null, .int 0])) :: []) s _ _ := hC
    refine lv_aload_n hx hb d_VF_init_107 rfl (lv_at hl 2 rfl) ?_
    refine lv_iconst (v := 4) hx hb d_VF_init_108 (by decide) ?_
    refine qc_newa (k := 18) (i := 0) (cap := 4) E hC rfl Nat.one_pos rfl rfl rfl (show 4 ≤ 4 by decide) rfl (by simp only [qc_R] <;> omega) (by simp only [qc_R] <;> omega) d_VF_init_109 (fun H hC => ?_)
    have hC : qc_C y (qc_v (qa_n y)) (3 + 6 * qa_n y + qa_m y + 18 + 1) ((0, .inr (0, [.int (nI (qa_n y)), .int (nI (qa_m y)), .int (qa_d y), .ref (qa_a y 1 0), .ref (qa_a y 8 0), .ref (qa_a y 12 0), .ref (qa_a y 16 0), .null, .null, .null, .null, .int 0])) :: []) s _ _ := hC
    refine qc_put (k := 0) (i := 0) (f := 7) E hC rfl rfl (by decide) f_VF_59 rfl (Or.inr ⟨rfl, hnm, rfl⟩) rfl rfl rfl (Nat.le_of_ble_eq_true rfl) d_VF_init_111 (fun H locs hC => ?_)
    have hC : qc_C y (qc_v (qa_n y)) (3 + 6 * qa_n y + qa_m y + 18 + 1) ((0, .inr (0, [.int (nI (qa_n y)), .int (nI (qa_m y)), .int (qa_d y), .ref (qa_a y 1 0), .ref (qa_a y 8 0), .ref (qa_a y 12 0), .ref (qa_a y 16 0), .ref (qa_a y 18 0), .null, .null, .null, .int 0])) :: []) s _ _ := hC
    refine lv_aload_n hx hb d_VF_init_114 rfl (lv_at hl 2 rfl) ?_
    refine lv_aload_n hx hb d_VF_init_115 rfl (lv_at hl 2 rfl) ?_
    refine qc_get (k := 0) (i := 0) (f := 0) (val := .int (nI (qa_n y))) E hC rfl rfl (by decide) f_VF_13 rfl rfl d_VF_init_116 ?_
    refine qc_newa (k := 19) (i := 0) (cap := 7) E hC (by simp only [qc_off] <;> omega) Nat.one_pos rfl rfl rfl (show qa_n y ≤ 7 by omega) rfl (by simp only [qc_R] <;> omega) (by simp only [qc_R] <;> omega) d_VF_init_119 (fun H hC => ?_)
    have hC : qc_C y (qc_v (qa_n y)) (3 + 6 * qa_n y + qa_m y + 18 + 1 + 1) ((0, .inr (0, [.int (nI (qa_n y)), .int (nI (qa_m y)), .int (qa_d y), .ref (qa_a y 1 0), .ref (qa_a y 8 0), .ref (qa_a y 12 0), .ref (qa_a y 16 0), .ref (qa_a y 18 0), .null, .null, .null, .int 0])) :: []) s _ _ := hC
    refine qc_put (k := 0) (i := 0) (f := 8) E hC rfl rfl (by decide) f_VF_63 rfl (Or.inr ⟨rfl, hnm, rfl⟩) rfl rfl rfl (Nat.le_of_ble_eq_true rfl) d_VF_init_121 (fun H locs hC => ?_)
    have hC : qc_C y (qc_v (qa_n y)) (3 + 6 * qa_n y + qa_m y + 18 + 1 + 1) ((0, .inr (0, [.int (nI (qa_n y)), .int (nI (qa_m y)), .int (qa_d y), .ref (qa_a y 1 0), .ref (qa_a y 8 0), .ref (qa_a y 12 0), .ref (qa_a y 16 0), .ref (qa_a y 18 0), .ref (qa_a y 19 0), .null, .null, .int 0])) :: []) s _ _ := hC
    refine lv_aload_n hx hb d_VF_init_124 rfl (lv_at hl 2 rfl) ?_
    refine lv_aload_n hx hb d_VF_init_125 rfl (lv_at hl 2 rfl) ?_
    refine qc_get (k := 0) (i := 0) (f := 0) (val := .int (nI (qa_n y))) E hC rfl rfl (by decide) f_VF_13 rfl rfl d_VF_init_126 ?_
    refine qc_newa (k := 20) (i := 0) (cap := 7) E hC (by simp only [qc_off] <;> omega) Nat.one_pos rfl rfl rfl (show qa_n y ≤ 7 by omega) rfl (by simp only [qc_R] <;> omega) (by simp only [qc_R] <;> omega) d_VF_init_129 (fun H hC => ?_)
    have hC : qc_C y (qc_v (qa_n y)) (3 + 6 * qa_n y + qa_m y + 18 + 1 + 1 + 1) ((0, .inr (0, [.int (nI (qa_n y)), .int (nI (qa_m y)), .int (qa_d y), .ref (qa_a y 1 0), .ref (qa_a y 8 0), .ref (qa_a y 12 0), .ref (qa_a y 16 0), .ref (qa_a y 18 0), .ref (qa_a y 19 0), .null, .null, .int 0])) :: []) s _ _ := hC
    refine qc_put (k := 0) (i := 0) (f := 9) E hC rfl rfl (by decide) f_VF_66 rfl (Or.inr ⟨rfl, hnm, rfl⟩) rfl rfl rfl (Nat.le_of_ble_eq_true rfl) d_VF_init_131 (fun H locs hC => ?_)
    have hC : qc_C y (qc_v (qa_n y)) (3 + 6 * qa_n y + qa_m y + 18 + 1 + 1 + 1) ((0, .inr (0, [.int (nI (qa_n y)), .int (nI (qa_m y)), .int (qa_d y), .ref (qa_a y 1 0), .ref (qa_a y 8 0), .ref (qa_a y 12 0), .ref (qa_a y 16 0), .ref (qa_a y 18 0), .ref (qa_a y 19 0), .ref (qa_a y 20 0), .null, .int 0])) :: []) s _ _ := hC
    refine lv_aload_n hx hb d_VF_init_134 rfl (lv_at hl 2 rfl) ?_
    refine lv_aload_n hx hb d_VF_init_135 rfl (lv_at hl 2 rfl) ?_
    refine qc_get (k := 0) (i := 0) (f := 0) (val := .int (nI (qa_n y))) E hC rfl rfl (by decide) f_VF_13 rfl rfl d_VF_init_136 ?_
    refine qc_newa (k := 21) (i := 0) (cap := 7) E hC (by simp only [qc_off] <;> omega) Nat.one_pos rfl rfl rfl (show qa_n y ≤ 7 by omega) rfl (by simp only [qc_R] <;> omega) (by simp only [qc_R] <;> omega) d_VF_init_139 (fun H hC => ?_)
    have hC : qc_C y (qc_v (qa_n y)) (3 + 6 * qa_n y + qa_m y + 18 + 1 + 1 + 1 + 1) ((0, .inr (0, [.int (nI (qa_n y)), .int (nI (qa_m y)), .int (qa_d y), .ref (qa_a y 1 0), .ref (qa_a y 8 0), .ref (qa_a y 12 0), .ref (qa_a y 16 0), .ref (qa_a y 18 0), .ref (qa_a y 19 0), .ref (qa_a y 20 0), .null, .int 0])) :: []) s _ _ := hC
    refine qc_put (k := 0) (i := 0) (f := 10) E hC rfl rfl (by decide) f_VF_69 rfl (Or.inr ⟨rfl, hnm, rfl⟩) rfl rfl rfl (Nat.le_of_ble_eq_true rfl) d_VF_init_141 (fun H locs hC => ?_)
    have hC : qc_C y (qc_v (qa_n y)) (3 + 6 * qa_n y + qa_m y + 18 + 1 + 1 + 1 + 1) ((0, .inr (0, [.int (nI (qa_n y)), .int (nI (qa_m y)), .int (qa_d y), .ref (qa_a y 1 0), .ref (qa_a y 8 0), .ref (qa_a y 12 0), .ref (qa_a y 16 0), .ref (qa_a y 18 0), .ref (qa_a y 19 0), .ref (qa_a y 20 0), .ref (qa_a y 21 0), .int 0])) :: []) s _ _ := hC
    have hC : qc_C y (qc_v (qa_n y)) (3 + 6 * qa_n y + qa_m y + 18 + 1 + 1 + 1 + 1) ([]) s _ _ := ⟨hC.1.drop (fun x hx => by cases hx) (fun h => by rw [qc_G_at (y := y) (k := 0) (i := 0) (q := 0) Nat.one_pos rfl]; exact h), hC.2⟩
    have hC : qc_C y (qc_v (qa_n y)) (3 + 6 * qa_n y + qa_m y + 22) ([]) s _ _ := hC.cast (by omega)
    exact qc_vret E hC hr hlocks (by omega) (by omega) d_VF_init_144
  · refine lv_iload_n hx hb d_VF_init_36 rfl (lv_at hl 3 rfl) ?_
    refine lv_goto hx hb d_VF_init_37 rfl ?_
    refine W.eq (g2 := F0 m 42 ls [.int (nI (qa_m y)), .ref (qa_a y 0 0)]) (by rw [← hm, if_pos (qb_n0 h33)]) ?_
    refine qc_put (k := 0) (i := 0) (f := 1) E hC rfl rfl (by decide) f_VF_21 rfl (Or.inr ⟨rfl, hnm, rfl⟩) rfl rfl rfl (Nat.le_of_ble_eq_true rfl) d_VF_init_42 (fun H locs hC => ?_)
    have hC : qc_C y (qc_v (qa_n y)) (1) ((0, .inr (0, [.int (nI (qa_n y)), .int (nI (qa_m y)), .int 0, .null, .null, .null, .null, .null, .null, .null, .null, .int 0])) :: []) s _ _ := hC
    refine lv_aload_n hx hb d_VF_init_45 rfl (lv_at hl 1 rfl) ?_
    refine lv_iload_n hx hb d_VF_init_46 rfl (lv_at hl 4 rfl) ?_
    refine lv_iconst (v := 1) hx hb d_VF_init_47 (by decide) ?_
    refine lv_sipush (v := 200) hx hb d_VF_init_48 (by decide) ?_
    refine qa_pT (As := [.int zd, .int 1, .int 200]) F (c_VF_clamp l zd 1 200) k_VF_9 ⟨Nat.le_of_ble_eq_true rfl, Nat.le_of_ble_eq_true rfl, (by simp only [qc_R] <;> omega), (by simp only [qc_R] <;> omega)⟩ rfl hl.1 rfl (Nat.le_of_ble_eq_true rfl) d_VF_init_51 ?_
    refine W.eq (g2 := F0 m 54 ls [.int (qa_d y), .ref (qa_a y 0 0)]) (by rw [hd]) ?_
    refine qc_put (k := 0) (i := 0) (f := 2) E hC rfl rfl (by decide) f_VF_24 rfl (Or.inr ⟨rfl, hnm, rfl⟩) rfl rfl rfl (Nat.le_of_ble_eq_true rfl) d_VF_init_54 (fun H locs hC => ?_)
    have hC : qc_C y (qc_v (qa_n y)) (1) ((0, .inr (0, [.int (nI (qa_n y)), .int (nI (qa_m y)), .int (qa_d y), .null, .null, .null, .null, .null, .null, .null, .null, .int 0])) :: []) s _ _ := hC
    refine lv_aload_n hx hb d_VF_init_57 rfl (lv_at hl 1 rfl) ?_
    refine qc_get (k := 0) (i := 0) (f := 0) (val := .int (nI (qa_n y))) E hC rfl rfl (by decide) f_VF_13 rfl rfl d_VF_init_58 ?_
    refine qc_cR (As := [.int (nI (qa_n y))]) E hC (c_VF_madeNodes l y _) k_VF_27 ⟨Nat.le_of_ble_eq_true rfl, Nat.le_of_ble_eq_true rfl, (by simp only [qc_R] <;> omega), (by simp only [qc_R] <;> omega)⟩ rfl hl.1 rfl (Nat.le_of_ble_eq_true rfl) d_VF_init_61 (fun H locs hC => ?_)
    have hC : qc_C y (qc_v (qa_n y)) (2 + 6 * qa_n y) ((0, .inr (0, [.int (nI (qa_n y)), .int (nI (qa_m y)), .int (qa_d y), .null, .null, .null, .null, .null, .null, .null, .null, .int 0])) :: []) s _ _ := hC
    refine lv_astore hx hb d_VF_init_64 hl (by decide) rfl (fun ls hl => ?_)
    have hl : lv_has ls 6 [(5, .ref (qa_a y 1 0)), (4, .int (((nI (qa_n y)) - 1) / 3)), (0, .ref (qa_a y 0 0)), (1, .int za), (2, .int zb), (3, .int zd)] := hl
    refine lv_aload_n hx hb d_VF_init_66 rfl (lv_at hl 2 rfl) ?_
    refine lv_aload hx hb d_VF_init_67 (lv_at hl 0 rfl) ?_
    refine qc_put (k := 0) (i := 0) (f := 3) E hC rfl rfl (by decide) f_VF_31 rfl (Or.inr ⟨rfl, hnm, rfl⟩) rfl rfl rfl (Nat.le_of_ble_eq_true rfl) d_VF_init_69 (fun H locs hC => ?_)
    have hC : qc_C y (qc_v (qa_n y)) (2 + 6 * qa_n y) ((0, .inr (0, [.int (nI (qa_n y)), .int (nI (qa_m y)), .int (qa_d y), .ref (qa_a y 1 0), .null, .null, .null, .null, .null, .null, .null, .int 0])) :: []) s _ _ := hC
    refine lv_aload_n hx hb d_VF_init_72 rfl (lv_at hl 2 rfl) ?_
    refine qc_new (k := 8) (i := 0) (ci := 2) (fs := [.null, .int 0, .null, .null, .int 0, .int 0, .int 0, .int 0]) E hC rfl rfl t_RL t_RL_ok (qa_m1 99 (by decide +kernel) rfl) (qa_m1 100 (by decide +kernel) rfl) (qa_m1 4 (by decide +kernel) rfl) (fun j hj => by rcases (show j = 0 ∨ j = 1 ∨ j = 2 ∨ j = 3 ∨ j = 4 ∨ j = 5 ∨ j = 6 ∨ j = 7 by omega) with rfl | rfl | rfl | rfl | rfl | rfl | rfl | rfl <;> rfl) (by simp only [qc_R] <;> omega) (by simp only [qc_R] <;> omega) d_VF_init_73 (fun H hC => ?_)
    have hC : qc_C y (qc_v (qa_n y)) (2 + 6 * qa_n y + 1) ((2 + 6 * qa_n y, .inr (2, [.null, .int 0, .null, .null, .int 0, .int 0, .int 0, .int 0])) :: (0, .inr (0, [.int (nI (qa_n y)), .int (nI (qa_m y)), .int (qa_d y), .ref (qa_a y 1 0), .null, .null, .null, .null, .null, .null, .null, .int 0])) :: []) s _ _ := hC
    refine lv_dup hx hb d_VF_init_76 rfl ?_
    refine lv_aload hx hb d_VF_init_77 (lv_at hl 0 rfl) ?_
    refine lv_aload_n hx hb d_VF_init_79 rfl (lv_at hl 2 rfl) ?_
    refine qc_get (k := 0) (i := 0) (f := 1) (val := .int (nI (qa_m y))) E (show qc_C y (qc_v (qa_n y)) (2 + 6 * qa_n y + 1) ((0, .inr (0, [.int (nI (qa_n y)), .int (nI (qa_m y)), .int (qa_d y), .ref (qa_a y 1 0), .null, .null, .null, .null, .null, .null, .null, .int 0])) :: (2 + 6 * qa_n y, .inr (2, [.null, .int 0, .null, .null, .int 0, .int 0, .int 0, .int 0])) :: []) s _ _ from ⟨hC.1.swap (show (2 + 6 * qa_n y : Nat) ≠ 0 by omega), hC.2⟩) rfl rfl (by decide) f_VF_21 rfl rfl d_VF_init_80 ?_
    have hC : qc_C y (qc_v (qa_n y)) (3 + 6 * qa_n y) ((2 + 6 * qa_n y, .inr (2, [.null, .int 0, .null, .null, .int 0, .int 0, .int 0, .int 0])) :: (0, .inr (0, [.int (nI (qa_n y)), .int (nI (qa_m y)), .int (qa_d y), .ref (qa_a y 1 0), .null, .null, .null, .null, .null, .null, .null, .int 0])) :: []) s _ _ := hC.cast (by omega)
    refine qc_cI (As := [.ref (qa_a y 1 0), .int (nI (qa_m y))]) E hC (c_RL_init l y _) (show qc_LI "VotedFrames" 37 y_RL_init b_RL_init 5 2 from ⟨(qa_m1 101 (by decide +kernel) rfl), (qa_m1 102 (by decide +kernel) rfl), (qa_m1 4 (by decide +kernel) rfl), w_RL_init, rfl, ⟨by decide, by decide, by decide +kernel⟩⟩) ⟨Nat.le_of_ble_eq_true rfl, Nat.le_of_ble_eq_true rfl, (by simp only [qc_R] <;> omega), (by simp only [qc_R] <;> omega)⟩ rfl hl.1 rfl (Nat.le_of_ble_eq_true rfl) d_VF_init_83 (fun H locs hC => ?_)
    have hC : qc_C y (qc_v (qa_n y)) (6 + 6 * qa_n y + qa_m y) ((0, .inr (0, [.int (nI (qa_n y)), .int (nI (qa_m y)), .int (qa_d y), .ref (qa_a y 1 0), .null, .null, .null, .null, .null, .null, .null, .int 0])) :: []) s _ _ := hC
    refine qc_put (k := 0) (i := 0) (f := 4) E hC rfl rfl (by decide) f_VF_40 rfl (Or.inr ⟨rfl, hnm, rfl⟩) rfl rfl rfl (Nat.le_of_ble_eq_true rfl) d_VF_init_86 (fun H locs hC => ?_)
    have hC : qc_C y (qc_v (qa_n y)) (6 + 6 * qa_n y + qa_m y) ((0, .inr (0, [.int (nI (qa_n y)), .int (nI (qa_m y)), .int (qa_d y), .ref (qa_a y 1 0), .ref (qa_a y 8 0), .null, .null, .null, .null, .null, .null, .int 0])) :: []) s _ _ := hC
    refine lv_aload_n hx hb d_VF_init_89 rfl (lv_at hl 2 rfl) ?_
    refine qc_cR (As := []) E hC (c_VF_madeTasks l y _) k_VF_44 ⟨Nat.le_of_ble_eq_true rfl, Nat.le_of_ble_eq_true rfl, (by simp only [qc_R] <;> omega), (by simp only [qc_R] <;> omega)⟩ rfl hl.1 rfl (Nat.le_of_ble_eq_true rfl) d_VF_init_90 (fun H locs hC => ?_)
    have hC : qc_C y (qc_v (qa_n y)) (7 + 6 * qa_n y + qa_m y + 3 * 4) ((0, .inr (0, [.int (nI (qa_n y)), .int (nI (qa_m y)), .int (qa_d y), .ref (qa_a y 1 0), .ref (qa_a y 8 0), .null, .null, .null, .null, .null, .null, .int 0])) :: []) s _ _ := hC
    refine qc_put (k := 0) (i := 0) (f := 5) E hC rfl rfl (by decide) f_VF_48 rfl (Or.inr ⟨rfl, hnm, rfl⟩) rfl rfl rfl (Nat.le_of_ble_eq_true rfl) d_VF_init_93 (fun H locs hC => ?_)
    have hC : qc_C y (qc_v (qa_n y)) (7 + 6 * qa_n y + qa_m y + 3 * 4) ((0, .inr (0, [.int (nI (qa_n y)), .int (nI (qa_m y)), .int (qa_d y), .ref (qa_a y 1 0), .ref (qa_a y 8 0), .ref (qa_a y 12 0), .null, .null, .null, .null, .null, .int 0])) :: []) s _ _ := hC
    refine lv_aload_n hx hb d_VF_init_96 rfl (lv_at hl 2 rfl) ?_
    have hC : qc_C y (qc_v (qa_n y)) (3 + 6 * qa_n y + qa_m y + 16) ((0, .inr (0, [.int (nI (qa_n y)), .int (nI (qa_m y)), .int (qa_d y), .ref (qa_a y 1 0), .ref (qa_a y 8 0), .ref (qa_a y 12 0), .null, .null, .null, .null, .null, .int 0])) :: []) s _ _ := hC.cast (by omega)
    refine qc_new (k := 16) (i := 0) (ci := 4) (fs := [.null, .int 0]) E hC rfl rfl t_SM t_SM_ok (qa_m1 163 (by decide +kernel) rfl) (qa_m1 164 (by decide +kernel) rfl) (qa_m1 6 (by decide +kernel) rfl) (fun j hj => by rcases (show j = 0 ∨ j = 1 by omega) with rfl | rfl <;> rfl) (by simp only [qc_R] <;> omega) (by simp only [qc_R] <;> omega) d_VF_init_97 (fun H hC => ?_)
    have hC : qc_C y (qc_v (qa_n y)) (3 + 6 * qa_n y + qa_m y + 16 + 1) ((3 + 6 * qa_n y + qa_m y + 16, .inr (4, [.null, .int 0])) :: (0, .inr (0, [.int (nI (qa_n y)), .int (nI (qa_m y)), .int (qa_d y), .ref (qa_a y 1 0), .ref (qa_a y 8 0), .ref (qa_a y 12 0), .null, .null, .null, .null, .null, .int 0])) :: []) s _ _ := hC
    refine lv_dup hx hb d_VF_init_100 rfl ?_
    have hC : qc_C y (qc_v (qa_n y)) (3 + 6 * qa_n y + qa_m y + 17) ((3 + 6 * qa_n y + qa_m y + 16, .inr (4, [.null, .int 0])) :: (0, .inr (0, [.int (nI (qa_n y)), .int (nI (qa_m y)), .int (qa_d y), .ref (qa_a y 1 0), .ref (qa_a y 8 0), .ref (qa_a y 12 0), .null, .null, .null, .null, .null, .int 0])) :: []) s _ _ := hC.cast (by omega)
    refine qc_cIN (As := []) E hC (c_SM_init l y _ (qc_mc (P := fun z => z < 3 + 6 * qa_n y + qa_m y + 16) (show (0 : Nat) < 3 + 6 * qa_n y + qa_m y + 16 by omega) (qc_m0 (P := fun z => z < 3 + 6 * qa_n y + qa_m y + 16)))) (show qc_LIN "VotedFrames" 54 y_SM_init "VotedFrames" b_SM_init 1 0 from ⟨List.mem_of_getElem? (i := 1) rfl, (qa_m1 166 (by decide +kernel) rfl), (qa_m1 6 (by decide +kernel) rfl), w_SM_init, rfl, ⟨by decide, by decide, by decide +kernel⟩⟩) ⟨Nat.le_of_ble_eq_true rfl, Nat.le_of_ble_eq_true rfl, (by simp only [qc_R] <;> omega), (by simp only [qc_R] <;> omega)⟩ rfl hl.1 rfl (Nat.le_of_ble_eq_true rfl) d_VF_init_101 (fun H locs hC => ?_)
    have hC : qc_C y (qc_v (qa_n y)) (3 + 6 * qa_n y + qa_m y + 18) ((0, .inr (0, [.int (nI (qa_n y)), .int (nI (qa_m y)), .int (qa_d y), .ref (qa_a y 1 0), .ref (qa_a y 8 0), .ref (qa_a y 12 0), .null, .null, .null, .null, .null, .int 0])) :: []) s _ _ := hC
    refine qc_put (k := 0) (i := 0) (f := 6) E hC rfl rfl (by decide) f_VF_55 rfl (Or.inr ⟨rfl, hnm, rfl⟩) rfl rfl rfl (Nat.le_of_ble_eq_true rfl) d_VF_init_104 (fun H locs hC => ?_)
    have hC : qc_C y (qc_v (qa_n y)) (3 + 6 * qa_n y + qa_m y + 18) ((0, .inr (0, [.int (nI (qa_n y)), .int (nI (qa_m y)), .int (qa_d y), .ref (qa_a y 1 0), .ref (qa_a y 8 0), .ref (qa_a y 12 0), .ref (qa_a y 16 0), .null, .null, .null, .null, .int 0])) :: []) s _ _ := hC
    refine lv_aload_n hx hb d_VF_init_107 rfl (lv_at hl 2 rfl) ?_
    refine lv_iconst (v := 4) hx hb d_VF_init_108 (by decide) ?_
    refine qc_newa (k := 18) (i := 0) (cap := 4) E hC rfl Nat.one_pos rfl rfl rfl (show 4 ≤ 4 by decide) rfl (by simp only [qc_R] <;> omega) (by simp only [qc_R] <;> omega) d_VF_init_109 (fun H hC => ?_)
    have hC : qc_C y (qc_v (qa_n y)) (3 + 6 * qa_n y + qa_m y + 18 + 1) ((0, .inr (0, [.int (nI (qa_n y)), .int (nI (qa_m y)), .int (qa_d y), .ref (qa_a y 1 0), .ref (qa_a y 8 0), .ref (qa_a y 12 0), .ref (qa_a y 16 0), .null, .null, .null, .null, .int 0])) :: []) s _ _ := hC
    refine qc_put (k := 0) (i := 0) (f := 7) E hC rfl rfl (by decide) f_VF_59 rfl (Or.inr ⟨rfl, hnm, rfl⟩) rfl rfl rfl (Nat.le_of_ble_eq_true rfl) d_VF_init_111 (fun H locs hC => ?_)
    have hC : qc_C y (qc_v (qa_n y)) (3 + 6 * qa_n y + qa_m y + 18 + 1) ((0, .inr (0, [.int (nI (qa_n y)), .int (nI (qa_m y)), .int (qa_d y), .ref (qa_a y 1 0), .ref (qa_a y 8 0), .ref (qa_a y 12 0), .ref (qa_a y 16 0), .ref (qa_a y 18 0), .null, .null, .null, .int 0])) :: []) s _ _ := hC
    refine lv_aload_n hx hb d_VF_init_114 rfl (lv_at hl 2 rfl) ?_
    refine lv_aload_n hx hb d_VF_init_115 rfl (lv_at hl 2 rfl) ?_
    refine qc_get (k := 0) (i := 0) (f := 0) (val := .int (nI (qa_n y))) E hC rfl rfl (by decide) f_VF_13 rfl rfl d_VF_init_116 ?_
    refine qc_newa (k := 19) (i := 0) (cap := 7) E hC (by simp only [qc_off] <;> omega) Nat.one_pos rfl rfl rfl (show qa_n y ≤ 7 by omega) rfl (by simp only [qc_R] <;> omega) (by simp only [qc_R] <;> omega) d_VF_init_119 (fun H hC => ?_)
    have hC : qc_C y (qc_v (qa_n y)) (3 + 6 * qa_n y + qa_m y + 18 + 1 + 1) ((0, .inr (0, [.int (nI (qa_n y)), .int (nI (qa_m y)), .int (qa_d y), .ref (qa_a y 1 0), .ref (qa_a y 8 0), .ref (qa_a y 12 0), .ref (qa_a y 16 0), .ref (qa_a y 18 0), .null, .null, .null, .int 0])) :: []) s _ _ := hC
    refine qc_put (k := 0) (i := 0) (f := 8) E hC rfl rfl (by decide) f_VF_63 rfl (Or.inr ⟨rfl, hnm, rfl⟩) rfl rfl rfl (Nat.le_of_ble_eq_true rfl) d_VF_init_121 (fun H locs hC => ?_)
    have hC : qc_C y (qc_v (qa_n y)) (3 + 6 * qa_n y + qa_m y + 18 + 1 + 1) ((0, .inr (0, [.int (nI (qa_n y)), .int (nI (qa_m y)), .int (qa_d y), .ref (qa_a y 1 0), .ref (qa_a y 8 0), .ref (qa_a y 12 0), .ref (qa_a y 16 0), .ref (qa_a y 18 0), .ref (qa_a y 19 0), .null, .null, .int 0])) :: []) s _ _ := hC
    refine lv_aload_n hx hb d_VF_init_124 rfl (lv_at hl 2 rfl) ?_
    refine lv_aload_n hx hb d_VF_init_125 rfl (lv_at hl 2 rfl) ?_
    refine qc_get (k := 0) (i := 0) (f := 0) (val := .int (nI (qa_n y))) E hC rfl rfl (by decide) f_VF_13 rfl rfl d_VF_init_126 ?_
    refine qc_newa (k := 20) (i := 0) (cap := 7) E hC (by simp only [qc_off] <;> omega) Nat.one_pos rfl rfl rfl (show qa_n y ≤ 7 by omega) rfl (by simp only [qc_R] <;> omega) (by simp only [qc_R] <;> omega) d_VF_init_129 (fun H hC => ?_)
    have hC : qc_C y (qc_v (qa_n y)) (3 + 6 * qa_n y + qa_m y + 18 + 1 + 1 + 1) ((0, .inr (0, [.int (nI (qa_n y)), .int (nI (qa_m y)), .int (qa_d y), .ref (qa_a y 1 0), .ref (qa_a y 8 0), .ref (qa_a y 12 0), .ref (qa_a y 16 0), .ref (qa_a y 18 0), .ref (qa_a y 19 0), .null, .null, .int 0])) :: []) s _ _ := hC
    refine qc_put (k := 0) (i := 0) (f := 9) E hC rfl rfl (by decide) f_VF_66 rfl (Or.inr ⟨rfl, hnm, rfl⟩) rfl rfl rfl (Nat.le_of_ble_eq_true rfl) d_VF_init_131 (fun H locs hC => ?_)
    have hC : qc_C y (qc_v (qa_n y)) (3 + 6 * qa_n y + qa_m y + 18 + 1 + 1 + 1) ((0, .inr (0, [.int (nI (qa_n y)), .int (nI (qa_m y)), .int (qa_d y), .ref (qa_a y 1 0), .ref (qa_a y 8 0), .ref (qa_a y 12 0), .ref (qa_a y 16 0), .ref (qa_a y 18 0), .ref (qa_a y 19 0), .ref (qa_a y 20 0), .null, .int 0])) :: []) s _ _ := hC
    refine lv_aload_n hx hb d_VF_init_134 rfl (lv_at hl 2 rfl) ?_
    refine lv_aload_n hx hb d_VF_init_135 rfl (lv_at hl 2 rfl) ?_
    refine qc_get (k := 0) (i := 0) (f := 0) (val := .int (nI (qa_n y))) E hC rfl rfl (by decide) f_VF_13 rfl rfl d_VF_init_136 ?_
    refine qc_newa (k := 21) (i := 0) (cap := 7) E hC (by simp only [qc_off] <;> omega) Nat.one_pos rfl rfl rfl (show qa_n y ≤ 7 by omega) rfl (by simp only [qc_R] <;> omega) (by simp only [qc_R] <;> omega) d_VF_init_139 (fun H hC => ?_)
    have hC : qc_C y (qc_v (qa_n y)) (3 + 6 * qa_n y + qa_m y + 18 + 1 + 1 + 1 + 1) ((0, .inr (0, [.int (nI (qa_n y)), .int (nI (qa_m y)), .int (qa_d y), .ref (qa_a y 1 0), .ref (qa_a y 8 0), .ref (qa_a y 12 0), .ref (qa_a y 16 0), .ref (qa_a y 18 0), .ref (qa_a y 19 0), .ref (qa_a y 20 0), .null, .int 0])) :: []) s _ _ := hC
    refine qc_put (k := 0) (i := 0) (f := 10) E hC rfl rfl (by decide) f_VF_69 rfl (Or.inr ⟨rfl, hnm, rfl⟩) rfl rfl rfl (Nat.le_of_ble_eq_true rfl) d_VF_init_141 (fun H locs hC => ?_)
    have hC : qc_C y (qc_v (qa_n y)) (3 + 6 * qa_n y + qa_m y + 18 + 1 + 1 + 1 + 1) ((0, .inr (0, [.int (nI (qa_n y)), .int (nI (qa_m y)), .int (qa_d y), .ref (qa_a y 1 0), .ref (qa_a y 8 0), .ref (qa_a y 12 0), .ref (qa_a y 16 0), .ref (qa_a y 18 0), .ref (qa_a y 19 0), .ref (qa_a y 20 0), .ref (qa_a y 21 0), .int 0])) :: []) s _ _ := hC
    have hC : qc_C y (qc_v (qa_n y)) (3 + 6 * qa_n y + qa_m y + 18 + 1 + 1 + 1 + 1) ([]) s _ _ := ⟨hC.1.drop (fun x hx => by cases hx) (fun h => by rw [qc_G_at (y := y) (k := 0) (i := 0) (q := 0) Nat.one_pos rfl]; exact h), hC.2⟩
    have hC : qc_C y (qc_v (qa_n y)) (3 + 6 * qa_n y + qa_m y + 22) ([]) s _ _ := hC.cast (by omega)
    exact qc_vret E hC hr hlocks (by omega) (by omega) d_VF_init_144

set_option maxHeartbeats 4000000 in
set_option maxRecDepth 100000 in
theorem c_MD_init (l : Launch) (y : qa_L) (za zb zd : Int32) (hn : qm_max 4 (qm_min 7 za) = nI (qa_n y)) (hm : (if qm_wi zb 0 ((nI (qa_n y) - 1) / 3) = true then zb else (nI (qa_n y) - 1) / 3) = nI (qa_m y)) (hd : qm_max 1 (qm_min 200 zd) = qa_d y) : qc_Mv l y_MD_init b_MD_init 6 1 21 428 [.ref (qa_a y 22 0), .int za, .int zb, .int zd] y (qc_v (qa_n y)) (3 + 6 * qa_n y + qa_m y + 23) ((3 + 6 * qa_n y + qa_m y + 22, .inr (5, [.int 0, .int 0, .int 0, .int 0, .int 0, .null, .null, .null, .null, .null, .null, .null, .null, .null, .null, .null, .null, .null, .null, .null, .null, .null, .null, .null, .null, .int 0, .null])) :: []) (3 + 6 * qa_n y + qa_m y + 44) ([]) := by
  refine qc_ofMv (plainFor_of_name (by decide)) rfl (Nat.le_of_ble_eq_true rfl) ?_
  intro p e s m below meth c ls E hr hlocks hnm hC hl
  have E : qc_E p m c b_MD_init 6 s _ "VotedFramesModel" y := E
  have F := E.1.1
  have hx := F.1
  have hb := F.2.1
  have hn4 : 4 ≤ qa_n y := E.1.2.1.2.2.1
  have hn7 : qa_n y ≤ 7 := E.1.2.1.2.2.2.1
  have hm3 : 3 * qa_m y < qa_n y := E.1.2.1.2.2.2.2.1
  have hl : lv_has ls 6 [(0, .ref (qa_a y 22 0)), (1, .int za), (2, .int zb), (3, .int zd)] := hl
  have hC : qc_C y (qc_v (qa_n y)) (3 + 6 * qa_n y + qa_m y + 23) ((3 + 6 * qa_n y + qa_m y + 22, .inr (5, [.int 0, .int 0, .int 0, .int 0, .int 0, .null, .null, .null, .null, .null, .null, .null, .null, .null, .null, .null, .null, .null, .null, .null, .null, .null, .null, .null, .null, .int 0, .null])) :: []) s s.heap [] := hC
  refine lv_aload_n hx hb d_MD_init_0 rfl (lv_at hl 0 rfl) ?_
  refine qc_obj E (qa_m3 26 (by decide +kernel) rfl) hl.1 (Nat.le_of_ble_eq_true rfl) (Nat.le_of_ble_eq_true rfl) d_MD_init_1 ?_
  refine lv_aload_n hx hb d_MD_init_4 rfl (lv_at hl 0 rfl) ?_
  refine lv_bipush (v := 7) hx hb d_MD_init_5 (by decide) ?_
  refine qc_newa (k := 23) (i := 0) (cap := 7) E hC rfl Nat.one_pos rfl rfl rfl (show 7 ≤ 7 by decide) rfl (by simp only [qc_R] <;> omega) (by simp only [qc_R] <;> omega) d_MD_init_7 (fun H hC => ?_)
  have hC : qc_C y (qc_v (qa_n y)) (3 + 6 * qa_n y + qa_m y + 23 + 1) ((3 + 6 * qa_n y + qa_m y + 22, .inr (5, [.int 0, .int 0, .int 0, .int 0, .int 0, .null, .null, .null, .null, .null, .null, .null, .null, .null, .null, .null, .null, .null, .null, .null, .null, .null, .null, .null, .null, .int 0, .null])) :: []) s _ _ := hC
  refine qc_put (k := 22) (i := 0) (f := 5) E hC rfl rfl (by decide) f_MD_7 rfl (Or.inr ⟨rfl, hnm, rfl⟩) rfl rfl rfl (Nat.le_of_ble_eq_true rfl) d_MD_init_9 (fun H locs hC => ?_)
  have hC : qc_C y (qc_v (qa_n y)) (3 + 6 * qa_n y + qa_m y + 23 + 1) ((3 + 6 * qa_n y + qa_m y + 22, .inr (5, [.int 0, .int 0, .int 0, .int 0, .int 0, .ref (qa_a y 23 0), .null, .null, .null, .null, .null, .null, .null, .null, .null, .null, .null, .null, .null, .null, .null, .null, .null, .null, .null, .int 0, .null])) :: []) s _ _ := hC
  refine lv_aload_n hx hb d_MD_init_12 rfl (lv_at hl 0 rfl) ?_
  refine lv_bipush (v := 7) hx hb d_MD_init_13 (by decide) ?_
  refine qc_newa (k := 24) (i := 0) (cap := 7) E hC (by simp only [qc_off] <;> omega) Nat.one_pos rfl rfl rfl (show 7 ≤ 7 by decide) rfl (by simp only [qc_R] <;> omega) (by simp only [qc_R] <;> omega) d_MD_init_15 (fun H hC => ?_)
  have hC : qc_C y (qc_v (qa_n y)) (3 + 6 * qa_n y + qa_m y + 23 + 1 + 1) ((3 + 6 * qa_n y + qa_m y + 22, .inr (5, [.int 0, .int 0, .int 0, .int 0, .int 0, .ref (qa_a y 23 0), .null, .null, .null, .null, .null, .null, .null, .null, .null, .null, .null, .null, .null, .null, .null, .null, .null, .null, .null, .int 0, .null])) :: []) s _ _ := hC
  refine qc_put (k := 22) (i := 0) (f := 6) E hC rfl rfl (by decide) f_MD_13 rfl (Or.inr ⟨rfl, hnm, rfl⟩) rfl rfl rfl (Nat.le_of_ble_eq_true rfl) d_MD_init_17 (fun H locs hC => ?_)
  have hC : qc_C y (qc_v (qa_n y)) (3 + 6 * qa_n y + qa_m y + 23 + 1 + 1) ((3 + 6 * qa_n y + qa_m y + 22, .inr (5, [.int 0, .int 0, .int 0, .int 0, .int 0, .ref (qa_a y 23 0), .ref (qa_a y 24 0), .null, .null, .null, .null, .null, .null, .null, .null, .null, .null, .null, .null, .null, .null, .null, .null, .null, .null, .int 0, .null])) :: []) s _ _ := hC
  refine lv_aload_n hx hb d_MD_init_20 rfl (lv_at hl 0 rfl) ?_
  refine lv_bipush (v := 7) hx hb d_MD_init_21 (by decide) ?_
  refine qc_newa (k := 25) (i := 0) (cap := 7) E hC (by simp only [qc_off] <;> omega) Nat.one_pos rfl rfl rfl (show 7 ≤ 7 by decide) rfl (by simp only [qc_R] <;> omega) (by simp only [qc_R] <;> omega) d_MD_init_23 (fun H hC => ?_)
  have hC : qc_C y (qc_v (qa_n y)) (3 + 6 * qa_n y + qa_m y + 23 + 1 + 1 + 1) ((3 + 6 * qa_n y + qa_m y + 22, .inr (5, [.int 0, .int 0, .int 0, .int 0, .int 0, .ref (qa_a y 23 0), .ref (qa_a y 24 0), .null, .null, .null, .null, .null, .null, .null, .null, .null, .null, .null, .null, .null, .null, .null, .null, .null, .null, .int 0, .null])) :: []) s _ _ := hC
  refine qc_put (k := 22) (i := 0) (f := 7) E hC rfl rfl (by decide) f_MD_16 rfl (Or.inr ⟨rfl, hnm, rfl⟩) rfl rfl rfl (Nat.le_of_ble_eq_true rfl) d_MD_init_25 (fun H locs hC => ?_)
  have hC : qc_C y (qc_v (qa_n y)) (3 + 6 * qa_n y + qa_m y + 23 + 1 + 1 + 1) ((3 + 6 * qa_n y + qa_m y + 22, .inr (5, [.int 0, .int 0, .int 0, .int 0, .int 0, .ref (qa_a y 23 0), .ref (qa_a y 24 0), .ref (qa_a y 25 0), .null, .null, .null, .null, .null, .null, .null, .null, .null, .null, .null, .null, .null, .null, .null, .null, .null, .int 0, .null])) :: []) s _ _ := hC
  refine lv_aload_n hx hb d_MD_init_28 rfl (lv_at hl 0 rfl) ?_
  refine lv_bipush (v := 7) hx hb d_MD_init_29 (by decide) ?_
  refine qc_newa (k := 26) (i := 0) (cap := 7) E hC (by simp only [qc_off] <;> omega) Nat.one_pos rfl rfl rfl (show 7 ≤ 7 by decide) rfl (by simp only [qc_R] <;> omega) (by simp only [qc_R] <;> omega) d_MD_init_31 (fun H hC => ?_)
  have hC : qc_C y (qc_v (qa_n y)) (3 + 6 * qa_n y + qa_m y + 23 + 1 + 1 + 1 + 1) ((3 + 6 * qa_n y + qa_m y + 22, .inr (5, [.int 0, .int 0, .int 0, .int 0, .int 0, .ref (qa_a y 23 0), .ref (qa_a y 24 0), .ref (qa_a y 25 0), .null, .null, .null, .null, .null, .null, .null, .null, .null, .null, .null, .null, .null, .null, .null, .null, .null, .int 0, .null])) :: []) s _ _ := hC
  refine qc_put (k := 22) (i := 0) (f := 8) E hC rfl rfl (by decide) f_MD_19 rfl (Or.inr ⟨rfl, hnm, rfl⟩) rfl rfl rfl (Nat.le_of_ble_eq_true rfl) d_MD_init_33 (fun H locs hC => ?_)
  have hC : qc_C y (qc_v (qa_n y)) (3 + 6 * qa_n y + qa_m y + 23 + 1 + 1 + 1 + 1) ((3 + 6 * qa_n y + qa_m y + 22, .inr (5, [.int 0, .int 0, .int 0, .int 0, .int 0, .ref (qa_a y 23 0), .ref (qa_a y 24 0), .ref (qa_a y 25 0), .ref (qa_a y 26 0), .null, .null, .null, .null, .null, .null, .null, .null, .null, .null, .null, .null, .null, .null, .null, .null, .int 0, .null])) :: []) s _ _ := hC
  refine lv_aload_n hx hb d_MD_init_36 rfl (lv_at hl 0 rfl) ?_
  refine lv_bipush (v := 7) hx hb d_MD_init_37 (by decide) ?_
  refine qc_newa (k := 27) (i := 0) (cap := 7) E hC (by simp only [qc_off] <;> omega) Nat.one_pos rfl rfl rfl (show 7 ≤ 7 by decide) rfl (by simp only [qc_R] <;> omega) (by simp only [qc_R] <;> omega) d_MD_init_39 (fun H hC => ?_)
  have hC : qc_C y (qc_v (qa_n y)) (3 + 6 * qa_n y + qa_m y + 23 + 1 + 1 + 1 + 1 + 1) ((3 + 6 * qa_n y + qa_m y + 22, .inr (5, [.int 0, .int 0, .int 0, .int 0, .int 0, .ref (qa_a y 23 0), .ref (qa_a y 24 0), .ref (qa_a y 25 0), .ref (qa_a y 26 0), .null, .null, .null, .null, .null, .null, .null, .null, .null, .null, .null, .null, .null, .null, .null, .null, .int 0, .null])) :: []) s _ _ := hC
  refine qc_put (k := 22) (i := 0) (f := 9) E hC rfl rfl (by decide) f_MD_22 rfl (Or.inr ⟨rfl, hnm, rfl⟩) rfl rfl rfl (Nat.le_of_ble_eq_true rfl) d_MD_init_41 (fun H locs hC => ?_)
  have hC : qc_C y (qc_v (qa_n y)) (3 + 6 * qa_n y + qa_m y + 23 + 1 + 1 + 1 + 1 + 1) ((3 + 6 * qa_n y + qa_m y + 22, .inr (5, [.int 0, .int 0, .int 0, .int 0, .int 0, .ref (qa_a y 23 0), .ref (qa_a y 24 0), .ref (qa_a y 25 0), .ref (qa_a y 26 0), .ref (qa_a y 27 0), .null, .null, .null, .null, .null, .null, .null, .null, .null, .null, .null, .null, .null, .null, .null, .int 0, .null])) :: []) s _ _ := hC
  refine lv_aload_n hx hb d_MD_init_44 rfl (lv_at hl 0 rfl) ?_
  refine lv_bipush (v := 7) hx hb d_MD_init_45 (by decide) ?_
  refine qc_newm (k := 28) (i := 0) (N := 7) E hC (by simp only [qc_off] <;> omega) rfl (by decide) (by simp only [qc_R] <;> omega) (by simp only [qc_R] <;> omega) d_MD_init_47 (fun H hC => ?_)
  have hC : qc_C y (qc_v (qa_n y)) (3 + 6 * qa_n y + qa_m y + 23 + 1 + 1 + 1 + 1 + 1 + 1) ((3 + 6 * qa_n y + qa_m y + 22, .inr (5, [.int 0, .int 0, .int 0, .int 0, .int 0, .ref (qa_a y 23 0), .ref (qa_a y 24 0), .ref (qa_a y 25 0), .ref (qa_a y 26 0), .ref (qa_a y 27 0), .null, .null, .null, .null, .null, .null, .null, .null, .null, .null, .null, .null, .null, .null, .null, .int 0, .null])) :: (3 + 6 * qa_n y + qa_m y + 23 + 1 + 1 + 1 + 1 + 1, .inl (qa_c y 0, (7, .inl (fun _ => 0)))) :: []) s _ _ := ⟨hC.1.swap (by show _ ≠ _; omega), hC.2⟩
  refine qc_put (k := 22) (i := 0) (f := 10) E hC rfl rfl (by decide) f_MD_25 rfl (Or.inr ⟨rfl, hnm, rfl⟩) rfl rfl rfl (Nat.le_of_ble_eq_true rfl) d_MD_init_49 (fun H locs hC => ?_)
  have hC : qc_C y (qc_v (qa_n y)) (3 + 6 * qa_n y + qa_m y + 23 + 1 + 1 + 1 + 1 + 1 + 1) ((3 + 6 * qa_n y + qa_m y + 22, .inr (5, [.int 0, .int 0, .int 0, .int 0, .int 0, .ref (qa_a y 23 0), .ref (qa_a y 24 0), .ref (qa_a y 25 0), .ref (qa_a y 26 0), .ref (qa_a y 27 0), .ref (qa_a y 28 0), .null, .null, .null, .null, .null, .null, .null, .null, .null, .null, .null, .null, .null, .null, .int 0, .null])) :: (3 + 6 * qa_n y + qa_m y + 23 + 1 + 1 + 1 + 1 + 1, .inl (qa_c y 0, (7, .inl (fun _ => 0)))) :: []) s _ _ := hC
  refine lv_aload_n hx hb d_MD_init_52 rfl (lv_at hl 0 rfl) ?_
  refine lv_bipush (v := 7) hx hb d_MD_init_53 (by decide) ?_
  refine qc_newa (k := 29) (i := 0) (cap := 7) E hC (by simp only [qc_off] <;> omega) Nat.one_pos rfl rfl rfl (show 7 ≤ 7 by decide) rfl (by simp only [qc_R] <;> omega) (by simp only [qc_R] <;> omega) d_MD_init_55 (fun H hC => ?_)
  have hC : qc_C y (qc_v (qa_n y)) (3 + 6 * qa_n y + qa_m y + 23 + 1 + 1 + 1 + 1 + 1 + 1 + 1) ((3 + 6 * qa_n y + qa_m y + 22, .inr (5, [.int 0, .int 0, .int 0, .int 0, .int 0, .ref (qa_a y 23 0), .ref (qa_a y 24 0), .ref (qa_a y 25 0), .ref (qa_a y 26 0), .ref (qa_a y 27 0), .ref (qa_a y 28 0), .null, .null, .null, .null, .null, .null, .null, .null, .null, .null, .null, .null, .null, .null, .int 0, .null])) :: (3 + 6 * qa_n y + qa_m y + 23 + 1 + 1 + 1 + 1 + 1, .inl (qa_c y 0, (7, .inl (fun _ => 0)))) :: []) s _ _ := hC
  refine qc_put (k := 22) (i := 0) (f := 11) E hC rfl rfl (by decide) f_MD_28 rfl (Or.inr ⟨rfl, hnm, rfl⟩) rfl rfl rfl (Nat.le_of_ble_eq_true rfl) d_MD_init_57 (fun H locs hC => ?_)
  have hC : qc_C y (qc_v (qa_n y)) (3 + 6 * qa_n y + qa_m y + 23 + 1 + 1 + 1 + 1 + 1 + 1 + 1) ((3 + 6 * qa_n y + qa_m y + 22, .inr (5, [.int 0, .int 0, .int 0, .int 0, .int 0, .ref (qa_a y 23 0), .ref (qa_a y 24 0), .ref (qa_a y 25 0), .ref (qa_a y 26 0), .ref (qa_a y 27 0), .ref (qa_a y 28 0), .ref (qa_a y 29 0), .null, .null, .null, .null, .null, .null, .null, .null, .null, .null, .null, .null, .null, .int 0, .null])) :: (3 + 6 * qa_n y + qa_m y + 23 + 1 + 1 + 1 + 1 + 1, .inl (qa_c y 0, (7, .inl (fun _ => 0)))) :: []) s _ _ := hC
  refine lv_aload_n hx hb d_MD_init_60 rfl (lv_at hl 0 rfl) ?_
  refine lv_bipush (v := 7) hx hb d_MD_init_61 (by decide) ?_
  refine qc_newa (k := 30) (i := 0) (cap := 7) E hC (by simp only [qc_off] <;> omega) Nat.one_pos rfl rfl rfl (show 7 ≤ 7 by decide) rfl (by simp only [qc_R] <;> omega) (by simp only [qc_R] <;> omega) d_MD_init_63 (fun H hC => ?_)
  have hC : qc_C y (qc_v (qa_n y)) (3 + 6 * qa_n y + qa_m y + 23 + 1 + 1 + 1 + 1 + 1 + 1 + 1 + 1) ((3 + 6 * qa_n y + qa_m y + 22, .inr (5, [.int 0, .int 0, .int 0, .int 0, .int 0, .ref (qa_a y 23 0), .ref (qa_a y 24 0), .ref (qa_a y 25 0), .ref (qa_a y 26 0), .ref (qa_a y 27 0), .ref (qa_a y 28 0), .ref (qa_a y 29 0), .null, .null, .null, .null, .null, .null, .null, .null, .null, .null, .null, .null, .null, .int 0, .null])) :: (3 + 6 * qa_n y + qa_m y + 23 + 1 + 1 + 1 + 1 + 1, .inl (qa_c y 0, (7, .inl (fun _ => 0)))) :: []) s _ _ := hC
  refine qc_put (k := 22) (i := 0) (f := 12) E hC rfl rfl (by decide) f_MD_31 rfl (Or.inr ⟨rfl, hnm, rfl⟩) rfl rfl rfl (Nat.le_of_ble_eq_true rfl) d_MD_init_65 (fun H locs hC => ?_)
  have hC : qc_C y (qc_v (qa_n y)) (3 + 6 * qa_n y + qa_m y + 23 + 1 + 1 + 1 + 1 + 1 + 1 + 1 + 1) ((3 + 6 * qa_n y + qa_m y + 22, .inr (5, [.int 0, .int 0, .int 0, .int 0, .int 0, .ref (qa_a y 23 0), .ref (qa_a y 24 0), .ref (qa_a y 25 0), .ref (qa_a y 26 0), .ref (qa_a y 27 0), .ref (qa_a y 28 0), .ref (qa_a y 29 0), .ref (qa_a y 30 0), .null, .null, .null, .null, .null, .null, .null, .null, .null, .null, .null, .null, .int 0, .null])) :: (3 + 6 * qa_n y + qa_m y + 23 + 1 + 1 + 1 + 1 + 1, .inl (qa_c y 0, (7, .inl (fun _ => 0)))) :: []) s _ _ := hC
  refine lv_aload_n hx hb d_MD_init_68 rfl (lv_at hl 0 rfl) ?_
  refine lv_bipush (v := 7) hx hb d_MD_init_69 (by decide) ?_
  refine qc_newa (k := 31) (i := 0) (cap := 7) E hC (by simp only [qc_off] <;> omega) Nat.one_pos rfl rfl rfl (show 7 ≤ 7 by decide) rfl (by simp only [qc_R] <;> omega) (by simp only [qc_R] <;> omega) d_MD_init_71 (fun H hC => ?_)
  have hC : qc_C y (qc_v (qa_n y)) (3 + 6 * qa_n y + qa_m y + 23 + 1 + 1 + 1 + 1 + 1 + 1 + 1 + 1 + 1) ((3 + 6 * qa_n y + qa_m y + 22, .inr (5, [.int 0, .int 0, .int 0, .int 0, .int 0, .ref (qa_a y 23 0), .ref (qa_a y 24 0), .ref (qa_a y 25 0), .ref (qa_a y 26 0), .ref (qa_a y 27 0), .ref (qa_a y 28 0), .ref (qa_a y 29 0), .ref (qa_a y 30 0), .null, .null, .null, .null, .null, .null, .null, .null, .null, .null, .null, .null, .int 0, .null])) :: (3 + 6 * qa_n y + qa_m y + 23 + 1 + 1 + 1 + 1 + 1, .inl (qa_c y 0, (7, .inl (fun _ => 0)))) :: []) s _ _ := hC
  refine qc_put (k := 22) (i := 0) (f := 13) E hC rfl rfl (by decide) f_MD_34 rfl (Or.inr ⟨rfl, hnm, rfl⟩) rfl rfl rfl (Nat.le_of_ble_eq_true rfl) d_MD_init_73 (fun H locs hC => ?_)
  have hC : qc_C y (qc_v (qa_n y)) (3 + 6 * qa_n y + qa_m y + 23 + 1 + 1 + 1 + 1 + 1 + 1 + 1 + 1 + 1) ((3 + 6 * qa_n y + qa_m y + 22, .inr (5, [.int 0, .int 0, .int 0, .int 0, .int 0, .ref (qa_a y 23 0), .ref (qa_a y 24 0), .ref (qa_a y 25 0), .ref (qa_a y 26 0), .ref (qa_a y 27 0), .ref (qa_a y 28 0), .ref (qa_a y 29 0), .ref (qa_a y 30 0), .ref (qa_a y 31 0), .null, .null, .null, .null, .null, .null, .null, .null, .null, .null, .null, .int 0, .null])) :: (3 + 6 * qa_n y + qa_m y + 23 + 1 + 1 + 1 + 1 + 1, .inl (qa_c y 0, (7, .inl (fun _ => 0)))) :: []) s _ _ := hC
  refine lv_aload_n hx hb d_MD_init_76 rfl (lv_at hl 0 rfl) ?_
  refine lv_bipush (v := 32) hx hb d_MD_init_77 (by decide) ?_
  refine qc_newa (k := 32) (i := 0) (cap := 32) E hC (by simp only [qc_off] <;> omega) Nat.one_pos rfl rfl rfl (show 32 ≤ 32 by decide) rfl (by simp only [qc_R] <;> omega) (by simp only [qc_R] <;> omega) d_MD_init_79 (fun H hC => ?_)
  have hC : qc_C y (qc_v (qa_n y)) (3 + 6 * qa_n y + qa_m y + 23 + 1 + 1 + 1 + 1 + 1 + 1 + 1 + 1 + 1 + 1) ((3 + 6 * qa_n y + qa_m y + 22, .inr (5, [.int 0, .int 0, .int 0, .int 0, .int 0, .ref (qa_a y 23 0), .ref (qa_a y 24 0), .ref (qa_a y 25 0), .ref (qa_a y 26 0), .ref (qa_a y 27 0), .ref (qa_a y 28 0), .ref (qa_a y 29 0), .ref (qa_a y 30 0), .ref (qa_a y 31 0), .null, .null, .null, .null, .null, .null, .null, .null, .null, .null, .null, .int 0, .null])) :: (3 + 6 * qa_n y + qa_m y + 23 + 1 + 1 + 1 + 1 + 1, .inl (qa_c y 0, (7, .inl (fun _ => 0)))) :: []) s _ _ := hC
  refine qc_put (k := 22) (i := 0) (f := 14) E hC rfl rfl (by decide) f_MD_37 rfl (Or.inr ⟨rfl, hnm, rfl⟩) rfl rfl rfl (Nat.le_of_ble_eq_true rfl) d_MD_init_81 (fun H locs hC => ?_)
  have hC : qc_C y (qc_v (qa_n y)) (3 + 6 * qa_n y + qa_m y + 23 + 1 + 1 + 1 + 1 + 1 + 1 + 1 + 1 + 1 + 1) ((3 + 6 * qa_n y + qa_m y + 22, .inr (5, [.int 0, .int 0, .int 0, .int 0, .int 0, .ref (qa_a y 23 0), .ref (qa_a y 24 0), .ref (qa_a y 25 0), .ref (qa_a y 26 0), .ref (qa_a y 27 0), .ref (qa_a y 28 0), .ref (qa_a y 29 0), .ref (qa_a y 30 0), .ref (qa_a y 31 0), .ref (qa_a y 32 0), .null, .null, .null, .null, .null, .null, .null, .null, .null, .null, .int 0, .null])) :: (3 + 6 * qa_n y + qa_m y + 23 + 1 + 1 + 1 + 1 + 1, .inl (qa_c y 0, (7, .inl (fun _ => 0)))) :: []) s _ _ := hC
  refine lv_aload_n hx hb d_MD_init_84 rfl (lv_at hl 0 rfl) ?_
  refine lv_bipush (v := 56) hx hb d_MD_init_85 (by decide) ?_
  refine qc_newa (k := 33) (i := 0) (cap := 56) E hC (by simp only [qc_off] <;> omega) Nat.one_pos rfl rfl rfl (show 56 ≤ 56 by decide) rfl (by simp only [qc_R] <;> omega) (by simp only [qc_R] <;> omega) d_MD_init_87 (fun H hC => ?_)
  have hC : qc_C y (qc_v (qa_n y)) (3 + 6 * qa_n y + qa_m y + 23 + 1 + 1 + 1 + 1 + 1 + 1 + 1 + 1 + 1 + 1 + 1) ((3 + 6 * qa_n y + qa_m y + 22, .inr (5, [.int 0, .int 0, .int 0, .int 0, .int 0, .ref (qa_a y 23 0), .ref (qa_a y 24 0), .ref (qa_a y 25 0), .ref (qa_a y 26 0), .ref (qa_a y 27 0), .ref (qa_a y 28 0), .ref (qa_a y 29 0), .ref (qa_a y 30 0), .ref (qa_a y 31 0), .ref (qa_a y 32 0), .null, .null, .null, .null, .null, .null, .null, .null, .null, .null, .int 0, .null])) :: (3 + 6 * qa_n y + qa_m y + 23 + 1 + 1 + 1 + 1 + 1, .inl (qa_c y 0, (7, .inl (fun _ => 0)))) :: []) s _ _ := hC
  refine qc_put (k := 22) (i := 0) (f := 15) E hC rfl rfl (by decide) f_MD_40 rfl (Or.inr ⟨rfl, hnm, rfl⟩) rfl rfl rfl (Nat.le_of_ble_eq_true rfl) d_MD_init_89 (fun H locs hC => ?_)
  have hC : qc_C y (qc_v (qa_n y)) (3 + 6 * qa_n y + qa_m y + 23 + 1 + 1 + 1 + 1 + 1 + 1 + 1 + 1 + 1 + 1 + 1) ((3 + 6 * qa_n y + qa_m y + 22, .inr (5, [.int 0, .int 0, .int 0, .int 0, .int 0, .ref (qa_a y 23 0), .ref (qa_a y 24 0), .ref (qa_a y 25 0), .ref (qa_a y 26 0), .ref (qa_a y 27 0), .ref (qa_a y 28 0), .ref (qa_a y 29 0), .ref (qa_a y 30 0), .ref (qa_a y 31 0), .ref (qa_a y 32 0), .ref (qa_a y 33 0), .null, .null, .null, .null, .null, .null, .null, .null, .null, .int 0, .null])) :: (3 + 6 * qa_n y + qa_m y + 23 + 1 + 1 + 1 + 1 + 1, .inl (qa_c y 0, (7, .inl (fun _ => 0)))) :: []) s _ _ := hC
  refine lv_aload_n hx hb d_MD_init_92 rfl (lv_at hl 0 rfl) ?_
  refine lv_bipush (v := 49) hx hb d_MD_init_93 (by decide) ?_
  refine qc_newa (k := 34) (i := 0) (cap := 49) E hC (by simp only [qc_off] <;> omega) Nat.one_pos rfl rfl rfl (show 49 ≤ 49 by decide) rfl (by simp only [qc_R] <;> omega) (by simp only [qc_R] <;> omega) d_MD_init_95 (fun H hC => ?_)
  have hC : qc_C y (qc_v (qa_n y)) (3 + 6 * qa_n y + qa_m y + 23 + 1 + 1 + 1 + 1 + 1 + 1 + 1 + 1 + 1 + 1 + 1 + 1) ((3 + 6 * qa_n y + qa_m y + 22, .inr (5, [.int 0, .int 0, .int 0, .int 0, .int 0, .ref (qa_a y 23 0), .ref (qa_a y 24 0), .ref (qa_a y 25 0), .ref (qa_a y 26 0), .ref (qa_a y 27 0), .ref (qa_a y 28 0), .ref (qa_a y 29 0), .ref (qa_a y 30 0), .ref (qa_a y 31 0), .ref (qa_a y 32 0), .ref (qa_a y 33 0), .null, .null, .null, .null, .null, .null, .null, .null, .null, .int 0, .null])) :: (3 + 6 * qa_n y + qa_m y + 23 + 1 + 1 + 1 + 1 + 1, .inl (qa_c y 0, (7, .inl (fun _ => 0)))) :: []) s _ _ := hC
  refine qc_put (k := 22) (i := 0) (f := 16) E hC rfl rfl (by decide) f_MD_43 rfl (Or.inr ⟨rfl, hnm, rfl⟩) rfl rfl rfl (Nat.le_of_ble_eq_true rfl) d_MD_init_97 (fun H locs hC => ?_)
  have hC : qc_C y (qc_v (qa_n y)) (3 + 6 * qa_n y + qa_m y + 23 + 1 + 1 + 1 + 1 + 1 + 1 + 1 + 1 + 1 + 1 + 1 + 1) ((3 + 6 * qa_n y + qa_m y + 22, .inr (5, [.int 0, .int 0, .int 0, .int 0, .int 0, .ref (qa_a y 23 0), .ref (qa_a y 24 0), .ref (qa_a y 25 0), .ref (qa_a y 26 0), .ref (qa_a y 27 0), .ref (qa_a y 28 0), .ref (qa_a y 29 0), .ref (qa_a y 30 0), .ref (qa_a y 31 0), .ref (qa_a y 32 0), .ref (qa_a y 33 0), .ref (qa_a y 34 0), .null, .null, .null, .null, .null, .null, .null, .null, .int 0, .null])) :: (3 + 6 * qa_n y + qa_m y + 23 + 1 + 1 + 1 + 1 + 1, .inl (qa_c y 0, (7, .inl (fun _ => 0)))) :: []) s _ _ := hC
  refine lv_aload_n hx hb d_MD_init_100 rfl (lv_at hl 0 rfl) ?_
  refine lv_bipush (v := 49) hx hb d_MD_init_101 (by decide) ?_
  refine qc_newa (k := 35) (i := 0) (cap := 49) E hC (by simp only [qc_off] <;> omega) Nat.one_pos rfl rfl rfl (show 49 ≤ 49 by decide) rfl (by simp only [qc_R] <;> omega) (by simp only [qc_R] <;> omega) d_MD_init_103 (fun H hC => ?_)
  have hC : qc_C y (qc_v (qa_n y)) (3 + 6 * qa_n y + qa_m y + 23 + 1 + 1 + 1 + 1 + 1 + 1 + 1 + 1 + 1 + 1 + 1 + 1 + 1) ((3 + 6 * qa_n y + qa_m y + 22, .inr (5, [.int 0, .int 0, .int 0, .int 0, .int 0, .ref (qa_a y 23 0), .ref (qa_a y 24 0), .ref (qa_a y 25 0), .ref (qa_a y 26 0), .ref (qa_a y 27 0), .ref (qa_a y 28 0), .ref (qa_a y 29 0), .ref (qa_a y 30 0), .ref (qa_a y 31 0), .ref (qa_a y 32 0), .ref (qa_a y 33 0), .ref (qa_a y 34 0), .null, .null, .null, .null, .null, .null, .null, .null, .int 0, .null])) :: (3 + 6 * qa_n y + qa_m y + 23 + 1 + 1 + 1 + 1 + 1, .inl (qa_c y 0, (7, .inl (fun _ => 0)))) :: []) s _ _ := hC
  refine qc_put (k := 22) (i := 0) (f := 17) E hC rfl rfl (by decide) f_MD_46 rfl (Or.inr ⟨rfl, hnm, rfl⟩) rfl rfl rfl (Nat.le_of_ble_eq_true rfl) d_MD_init_105 (fun H locs hC => ?_)
  have hC : qc_C y (qc_v (qa_n y)) (3 + 6 * qa_n y + qa_m y + 23 + 1 + 1 + 1 + 1 + 1 + 1 + 1 + 1 + 1 + 1 + 1 + 1 + 1) ((3 + 6 * qa_n y + qa_m y + 22, .inr (5, [.int 0, .int 0, .int 0, .int 0, .int 0, .ref (qa_a y 23 0), .ref (qa_a y 24 0), .ref (qa_a y 25 0), .ref (qa_a y 26 0), .ref (qa_a y 27 0), .ref (qa_a y 28 0), .ref (qa_a y 29 0), .ref (qa_a y 30 0), .ref (qa_a y 31 0), .ref (qa_a y 32 0), .ref (qa_a y 33 0), .ref (qa_a y 34 0), .ref (qa_a y 35 0), .null, .null, .null, .null, .null, .null, .null, .int 0, .null])) :: (3 + 6 * qa_n y + qa_m y + 23 + 1 + 1 + 1 + 1 + 1, .inl (qa_c y 0, (7, .inl (fun _ => 0)))) :: []) s _ _ := hC
  refine lv_aload_n hx hb d_MD_init_108 rfl (lv_at hl 0 rfl) ?_
  refine lv_bipush (v := 49) hx hb d_MD_init_109 (by decide) ?_
  refine qc_newa (k := 36) (i := 0) (cap := 49) E hC (by simp only [qc_off] <;> omega) Nat.one_pos rfl rfl rfl (show 49 ≤ 49 by decide) rfl (by simp only [qc_R] <;> omega) (by simp only [qc_R] <;> omega) d_MD_init_111 (fun H hC => ?_)
  have hC : qc_C y (qc_v (qa_n y)) (3 + 6 * qa_n y + qa_m y + 23 + 1 + 1 + 1 + 1 + 1 + 1 + 1 + 1 + 1 + 1 + 1 + 1 + 1 + 1) ((3 + 6 * qa_n y + qa_m y + 22, .inr (5, [.int 0, .int 0, .int 0, .int 0, .int 0, .ref (qa_a y 23 0), .ref (qa_a y 24 0), .ref (qa_a y 25 0), .ref (qa_a y 26 0), .ref (qa_a y 27 0), .ref (qa_a y 28 0), .ref (qa_a y 29 0), .ref (qa_a y 30 0), .ref (qa_a y 31 0), .ref (qa_a y 32 0), .ref (qa_a y 33 0), .ref (qa_a y 34 0), .ref (qa_a y 35 0), .null, .null, .null, .null, .null, .null, .null, .int 0, .null])) :: (3 + 6 * qa_n y + qa_m y + 23 + 1 + 1 + 1 + 1 + 1, .inl (qa_c y 0, (7, .inl (fun _ => 0)))) :: []) s _ _ := hC
  refine qc_put (k := 22) (i := 0) (f := 18) E hC rfl rfl (by decide) f_MD_49 rfl (Or.inr ⟨rfl, hnm, rfl⟩) rfl rfl rfl (Nat.le_of_ble_eq_true rfl) d_MD_init_113 (fun H locs hC => ?_)
  have hC : qc_C y (qc_v (qa_n y)) (3 + 6 * qa_n y + qa_m y + 23 + 1 + 1 + 1 + 1 + 1 + 1 + 1 + 1 + 1 + 1 + 1 + 1 + 1 + 1) ((3 + 6 * qa_n y + qa_m y + 22, .inr (5, [.int 0, .int 0, .int 0, .int 0, .int 0, .ref (qa_a y 23 0), .ref (qa_a y 24 0), .ref (qa_a y 25 0), .ref (qa_a y 26 0), .ref (qa_a y 27 0), .ref (qa_a y 28 0), .ref (qa_a y 29 0), .ref (qa_a y 30 0), .ref (qa_a y 31 0), .ref (qa_a y 32 0), .ref (qa_a y 33 0), .ref (qa_a y 34 0), .ref (qa_a y 35 0), .ref (qa_a y 36 0), .null, .null, .null, .null, .null, .null, .int 0, .null])) :: (3 + 6 * qa_n y + qa_m y + 23 + 1 + 1 + 1 + 1 + 1, .inl (qa_c y 0, (7, .inl (fun _ => 0)))) :: []) s _ _ := hC
  refine lv_aload_n hx hb d_MD_init_116 rfl (lv_at hl 0 rfl) ?_
  refine lv_bipush (v := 48) hx hb d_MD_init_117 (by decide) ?_
  refine qc_newa (k := 37) (i := 0) (cap := 48) E hC (by simp only [qc_off] <;> omega) Nat.one_pos rfl rfl rfl (show 48 ≤ 48 by decide) rfl (by simp only [qc_R] <;> omega) (by simp only [qc_R] <;> omega) d_MD_init_119 (fun H hC => ?_)
  have hC : qc_C y (qc_v (qa_n y)) (3 + 6 * qa_n y + qa_m y + 23 + 1 + 1 + 1 + 1 + 1 + 1 + 1 + 1 + 1 + 1 + 1 + 1 + 1 + 1 + 1) ((3 + 6 * qa_n y + qa_m y + 22, .inr (5, [.int 0, .int 0, .int 0, .int 0, .int 0, .ref (qa_a y 23 0), .ref (qa_a y 24 0), .ref (qa_a y 25 0), .ref (qa_a y 26 0), .ref (qa_a y 27 0), .ref (qa_a y 28 0), .ref (qa_a y 29 0), .ref (qa_a y 30 0), .ref (qa_a y 31 0), .ref (qa_a y 32 0), .ref (qa_a y 33 0), .ref (qa_a y 34 0), .ref (qa_a y 35 0), .ref (qa_a y 36 0), .null, .null, .null, .null, .null, .null, .int 0, .null])) :: (3 + 6 * qa_n y + qa_m y + 23 + 1 + 1 + 1 + 1 + 1, .inl (qa_c y 0, (7, .inl (fun _ => 0)))) :: []) s _ _ := hC
  refine qc_put (k := 22) (i := 0) (f := 19) E hC rfl rfl (by decide) f_MD_52 rfl (Or.inr ⟨rfl, hnm, rfl⟩) rfl rfl rfl (Nat.le_of_ble_eq_true rfl) d_MD_init_121 (fun H locs hC => ?_)
  have hC : qc_C y (qc_v (qa_n y)) (3 + 6 * qa_n y + qa_m y + 23 + 1 + 1 + 1 + 1 + 1 + 1 + 1 + 1 + 1 + 1 + 1 + 1 + 1 + 1 + 1) ((3 + 6 * qa_n y + qa_m y + 22, .inr (5, [.int 0, .int 0, .int 0, .int 0, .int 0, .ref (qa_a y 23 0), .ref (qa_a y 24 0), .ref (qa_a y 25 0), .ref (qa_a y 26 0), .ref (qa_a y 27 0), .ref (qa_a y 28 0), .ref (qa_a y 29 0), .ref (qa_a y 30 0), .ref (qa_a y 31 0), .ref (qa_a y 32 0), .ref (qa_a y 33 0), .ref (qa_a y 34 0), .ref (qa_a y 35 0), .ref (qa_a y 36 0), .ref (qa_a y 37 0), .null, .null, .null, .null, .null, .int 0, .null])) :: (3 + 6 * qa_n y + qa_m y + 23 + 1 + 1 + 1 + 1 + 1, .inl (qa_c y 0, (7, .inl (fun _ => 0)))) :: []) s _ _ := hC
  refine lv_aload_n hx hb d_MD_init_124 rfl (lv_at hl 0 rfl) ?_
  refine lv_bipush (v := 48) hx hb d_MD_init_125 (by decide) ?_
  refine qc_newa (k := 38) (i := 0) (cap := 48) E hC (by simp only [qc_off] <;> omega) Nat.one_pos rfl rfl rfl (show 48 ≤ 48 by decide) rfl (by simp only [qc_R] <;> omega) (by simp only [qc_R] <;> omega) d_MD_init_127 (fun H hC => ?_)
  have hC : qc_C y (qc_v (qa_n y)) (3 + 6 * qa_n y + qa_m y + 23 + 1 + 1 + 1 + 1 + 1 + 1 + 1 + 1 + 1 + 1 + 1 + 1 + 1 + 1 + 1 + 1) ((3 + 6 * qa_n y + qa_m y + 22, .inr (5, [.int 0, .int 0, .int 0, .int 0, .int 0, .ref (qa_a y 23 0), .ref (qa_a y 24 0), .ref (qa_a y 25 0), .ref (qa_a y 26 0), .ref (qa_a y 27 0), .ref (qa_a y 28 0), .ref (qa_a y 29 0), .ref (qa_a y 30 0), .ref (qa_a y 31 0), .ref (qa_a y 32 0), .ref (qa_a y 33 0), .ref (qa_a y 34 0), .ref (qa_a y 35 0), .ref (qa_a y 36 0), .ref (qa_a y 37 0), .null, .null, .null, .null, .null, .int 0, .null])) :: (3 + 6 * qa_n y + qa_m y + 23 + 1 + 1 + 1 + 1 + 1, .inl (qa_c y 0, (7, .inl (fun _ => 0)))) :: []) s _ _ := hC
  refine qc_put (k := 22) (i := 0) (f := 20) E hC rfl rfl (by decide) f_MD_55 rfl (Or.inr ⟨rfl, hnm, rfl⟩) rfl rfl rfl (Nat.le_of_ble_eq_true rfl) d_MD_init_129 (fun H locs hC => ?_)
  have hC : qc_C y (qc_v (qa_n y)) (3 + 6 * qa_n y + qa_m y + 23 + 1 + 1 + 1 + 1 + 1 + 1 + 1 + 1 + 1 + 1 + 1 + 1 + 1 + 1 + 1 + 1) ((3 + 6 * qa_n y + qa_m y + 22, .inr (5, [.int 0, .int 0, .int 0, .int 0, .int 0, .ref (qa_a y 23 0), .ref (qa_a y 24 0), .ref (qa_a y 25 0), .ref (qa_a y 26 0), .ref (qa_a y 27 0), .ref (qa_a y 28 0), .ref (qa_a y 29 0), .ref (qa_a y 30 0), .ref (qa_a y 31 0), .ref (qa_a y 32 0), .ref (qa_a y 33 0), .ref (qa_a y 34 0), .ref (qa_a y 35 0), .ref (qa_a y 36 0), .ref (qa_a y 37 0), .ref (qa_a y 38 0), .null, .null, .null, .null, .int 0, .null])) :: (3 + 6 * qa_n y + qa_m y + 23 + 1 + 1 + 1 + 1 + 1, .inl (qa_c y 0, (7, .inl (fun _ => 0)))) :: []) s _ _ := hC
  refine lv_aload_n hx hb d_MD_init_132 rfl (lv_at hl 0 rfl) ?_
  refine lv_iconst (v := 4) hx hb d_MD_init_133 (by decide) ?_
  refine qc_newa (k := 39) (i := 0) (cap := 4) E hC (by simp only [qc_off] <;> omega) Nat.one_pos rfl rfl rfl (show 4 ≤ 4 by decide) rfl (by simp only [qc_R] <;> omega) (by simp only [qc_R] <;> omega) d_MD_init_134 (fun H hC => ?_)
  have hC : qc_C y (qc_v (qa_n y)) (3 + 6 * qa_n y + qa_m y + 23 + 1 + 1 + 1 + 1 + 1 + 1 + 1 + 1 + 1 + 1 + 1 + 1 + 1 + 1 + 1 + 1 + 1) ((3 + 6 * qa_n y + qa_m y + 22, .inr (5, [.int 0, .int 0, .int 0, .int 0, .int 0, .ref (qa_a y 23 0), .ref (qa_a y 24 0), .ref (qa_a y 25 0), .ref (qa_a y 26 0), .ref (qa_a y 27 0), .ref (qa_a y 28 0), .ref (qa_a y 29 0), .ref (qa_a y 30 0), .ref (qa_a y 31 0), .ref (qa_a y 32 0), .ref (qa_a y 33 0), .ref (qa_a y 34 0), .ref (qa_a y 35 0), .ref (qa_a y 36 0), .ref (qa_a y 37 0), .ref (qa_a y 38 0), .null, .null, .null, .null, .int 0, .null])) :: (3 + 6 * qa_n y + qa_m y + 23 + 1 + 1 + 1 + 1 + 1, .inl (qa_c y 0, (7, .inl (fun _ => 0)))) :: []) s _ _ := hC
  refine qc_put (k := 22) (i := 0) (f := 21) E hC rfl rfl (by decide) f_MD_58 rfl (Or.inr ⟨rfl, hnm, rfl⟩) rfl rfl rfl (Nat.le_of_ble_eq_true rfl) d_MD_init_136 (fun H locs hC => ?_)
  have hC : qc_C y (qc_v (qa_n y)) (3 + 6 * qa_n y + qa_m y + 23 + 1 + 1 + 1 + 1 + 1 + 1 + 1 + 1 + 1 + 1 + 1 + 1 + 1 + 1 + 1 + 1 + 1) ((3 + 6 * qa_n y + qa_m y + 22, .inr (5, [.int 0, .int 0, .int 0, .int 0, .int 0, .ref (qa_a y 23 0), .ref (qa_a y 24 0), .ref (qa_a y 25 0), .ref (qa_a y 26 0), .ref (qa_a y 27 0), .ref (qa_a y 28 0), .ref (qa_a y 29 0), .ref (qa_a y 30 0), .ref (qa_a y 31 0), .ref (qa_a y 32 0), .ref (qa_a y 33 0), .ref (qa_a y 34 0), .ref (qa_a y 35 0), .ref (qa_a y 36 0), .ref (qa_a y 37 0), .ref (qa_a y 38 0), .ref (qa_a y 39 0), .null, .null, .null, .int 0, .null])) :: (3 + 6 * qa_n y + qa_m y + 23 + 1 + 1 + 1 + 1 + 1, .inl (qa_c y 0, (7, .inl (fun _ => 0)))) :: []) s _ _ := hC
  refine lv_aload_n hx hb d_MD_init_139 rfl (lv_at hl 0 rfl) ?_
  refine lv_iconst (v := 4) hx hb d_MD_init_140 (by decide) ?_
  refine qc_newa (k := 40) (i := 0) (cap := 4) E hC (by simp only [qc_off] <;> omega) Nat.one_pos rfl rfl rfl (show 4 ≤ 4 by decide) rfl (by simp only [qc_R] <;> omega) (by simp only [qc_R] <;> omega) d_MD_init_141 (fun H hC => ?_)
  have hC : qc_C y (qc_v (qa_n y)) (3 + 6 * qa_n y + qa_m y + 23 + 1 + 1 + 1 + 1 + 1 + 1 + 1 + 1 + 1 + 1 + 1 + 1 + 1 + 1 + 1 + 1 + 1 + 1) ((3 + 6 * qa_n y + qa_m y + 22, .inr (5, [.int 0, .int 0, .int 0, .int 0, .int 0, .ref (qa_a y 23 0), .ref (qa_a y 24 0), .ref (qa_a y 25 0), .ref (qa_a y 26 0), .ref (qa_a y 27 0), .ref (qa_a y 28 0), .ref (qa_a y 29 0), .ref (qa_a y 30 0), .ref (qa_a y 31 0), .ref (qa_a y 32 0), .ref (qa_a y 33 0), .ref (qa_a y 34 0), .ref (qa_a y 35 0), .ref (qa_a y 36 0), .ref (qa_a y 37 0), .ref (qa_a y 38 0), .ref (qa_a y 39 0), .null, .null, .null, .int 0, .null])) :: (3 + 6 * qa_n y + qa_m y + 23 + 1 + 1 + 1 + 1 + 1, .inl (qa_c y 0, (7, .inl (fun _ => 0)))) :: []) s _ _ := hC
  refine qc_put (k := 22) (i := 0) (f := 22) E hC rfl rfl (by decide) f_MD_61 rfl (Or.inr ⟨rfl, hnm, rfl⟩) rfl rfl rfl (Nat.le_of_ble_eq_true rfl) d_MD_init_143 (fun H locs hC => ?_)
  have hC : qc_C y (qc_v (qa_n y)) (3 + 6 * qa_n y + qa_m y + 23 + 1 + 1 + 1 + 1 + 1 + 1 + 1 + 1 + 1 + 1 + 1 + 1 + 1 + 1 + 1 + 1 + 1 + 1) ((3 + 6 * qa_n y + qa_m y + 22, .inr (5, [.int 0, .int 0, .int 0, .int 0, .int 0, .ref (qa_a y 23 0), .ref (qa_a y 24 0), .ref (qa_a y 25 0), .ref (qa_a y 26 0), .ref (qa_a y 27 0), .ref (qa_a y 28 0), .ref (qa_a y 29 0), .ref (qa_a y 30 0), .ref (qa_a y 31 0), .ref (qa_a y 32 0), .ref (qa_a y 33 0), .ref (qa_a y 34 0), .ref (qa_a y 35 0), .ref (qa_a y 36 0), .ref (qa_a y 37 0), .ref (qa_a y 38 0), .ref (qa_a y 39 0), .ref (qa_a y 40 0), .null, .null, .int 0, .null])) :: (3 + 6 * qa_n y + qa_m y + 23 + 1 + 1 + 1 + 1 + 1, .inl (qa_c y 0, (7, .inl (fun _ => 0)))) :: []) s _ _ := hC
  refine lv_aload_n hx hb d_MD_init_146 rfl (lv_at hl 0 rfl) ?_
  refine lv_iconst (v := 4) hx hb d_MD_init_147 (by decide) ?_
  refine qc_newa (k := 41) (i := 0) (cap := 4) E hC (by simp only [qc_off] <;> omega) Nat.one_pos rfl rfl rfl (show 4 ≤ 4 by decide) rfl (by simp only [qc_R] <;> omega) (by simp only [qc_R] <;> omega) d_MD_init_148 (fun H hC => ?_)
  have hC : qc_C y (qc_v (qa_n y)) (3 + 6 * qa_n y + qa_m y + 23 + 1 + 1 + 1 + 1 + 1 + 1 + 1 + 1 + 1 + 1 + 1 + 1 + 1 + 1 + 1 + 1 + 1 + 1 + 1) ((3 + 6 * qa_n y + qa_m y + 22, .inr (5, [.int 0, .int 0, .int 0, .int 0, .int 0, .ref (qa_a y 23 0), .ref (qa_a y 24 0), .ref (qa_a y 25 0), .ref (qa_a y 26 0), .ref (qa_a y 27 0), .ref (qa_a y 28 0), .ref (qa_a y 29 0), .ref (qa_a y 30 0), .ref (qa_a y 31 0), .ref (qa_a y 32 0), .ref (qa_a y 33 0), .ref (qa_a y 34 0), .ref (qa_a y 35 0), .ref (qa_a y 36 0), .ref (qa_a y 37 0), .ref (qa_a y 38 0), .ref (qa_a y 39 0), .ref (qa_a y 40 0), .null, .null, .int 0, .null])) :: (3 + 6 * qa_n y + qa_m y + 23 + 1 + 1 + 1 + 1 + 1, .inl (qa_c y 0, (7, .inl (fun _ => 0)))) :: []) s _ _ := hC
  refine qc_put (k := 22) (i := 0) (f := 23) E hC rfl rfl (by decide) f_MD_64 rfl (Or.inr ⟨rfl, hnm, rfl⟩) rfl rfl rfl (Nat.le_of_ble_eq_true rfl) d_MD_init_150 (fun H locs hC => ?_)
  have hC : qc_C y (qc_v (qa_n y)) (3 + 6 * qa_n y + qa_m y + 23 + 1 + 1 + 1 + 1 + 1 + 1 + 1 + 1 + 1 + 1 + 1 + 1 + 1 + 1 + 1 + 1 + 1 + 1 + 1) ((3 + 6 * qa_n y + qa_m y + 22, .inr (5, [.int 0, .int 0, .int 0, .int 0, .int 0, .ref (qa_a y 23 0), .ref (qa_a y 24 0), .ref (qa_a y 25 0), .ref (qa_a y 26 0), .ref (qa_a y 27 0), .ref (qa_a y 28 0), .ref (qa_a y 29 0), .ref (qa_a y 30 0), .ref (qa_a y 31 0), .ref (qa_a y 32 0), .ref (qa_a y 33 0), .ref (qa_a y 34 0), .ref (qa_a y 35 0), .ref (qa_a y 36 0), .ref (qa_a y 37 0), .ref (qa_a y 38 0), .ref (qa_a y 39 0), .ref (qa_a y 40 0), .ref (qa_a y 41 0), .null, .int 0, .null])) :: (3 + 6 * qa_n y + qa_m y + 23 + 1 + 1 + 1 + 1 + 1, .inl (qa_c y 0, (7, .inl (fun _ => 0)))) :: []) s _ _ := hC
  refine lv_aload_n hx hb d_MD_init_153 rfl (lv_at hl 0 rfl) ?_
  refine lv_bipush (v := 6) hx hb d_MD_init_154 (by decide) ?_
  refine qc_newa (k := 42) (i := 0) (cap := 6) E hC (by simp only [qc_off] <;> omega) Nat.one_pos rfl rfl rfl (show 6 ≤ 6 by decide) rfl (by simp only [qc_R] <;> omega) (by simp only [qc_R] <;> omega) d_MD_init_156 (fun H hC => ?_)
  have hC : qc_C y (qc_v (qa_n y)) (3 + 6 * qa_n y + qa_m y + 23 + 1 + 1 + 1 + 1 + 1 + 1 + 1 + 1 + 1 + 1 + 1 + 1 + 1 + 1 + 1 + 1 + 1 + 1 + 1 + 1) ((3 + 6 * qa_n y + qa_m y + 22, .inr (5, [.int 0, .int 0, .int 0, .int 0, .int 0, .ref (qa_a y 23 0), .ref (qa_a y 24 0), .ref (qa_a y 25 0), .ref (qa_a y 26 0), .ref (qa_a y 27 0), .ref (qa_a y 28 0), .ref (qa_a y 29 0), .ref (qa_a y 30 0), .ref (qa_a y 31 0), .ref (qa_a y 32 0), .ref (qa_a y 33 0), .ref (qa_a y 34 0), .ref (qa_a y 35 0), .ref (qa_a y 36 0), .ref (qa_a y 37 0), .ref (qa_a y 38 0), .ref (qa_a y 39 0), .ref (qa_a y 40 0), .ref (qa_a y 41 0), .null, .int 0, .null])) :: (3 + 6 * qa_n y + qa_m y + 23 + 1 + 1 + 1 + 1 + 1, .inl (qa_c y 0, (7, .inl (fun _ => 0)))) :: []) s _ _ := hC
  refine qc_put (k := 22) (i := 0) (f := 24) E hC rfl rfl (by decide) f_MD_67 rfl (Or.inr ⟨rfl, hnm, rfl⟩) rfl rfl rfl (Nat.le_of_ble_eq_true rfl) d_MD_init_158 (fun H locs hC => ?_)
  have hC : qc_C y (qc_v (qa_n y)) (3 + 6 * qa_n y + qa_m y + 23 + 1 + 1 + 1 + 1 + 1 + 1 + 1 + 1 + 1 + 1 + 1 + 1 + 1 + 1 + 1 + 1 + 1 + 1 + 1 + 1) ((3 + 6 * qa_n y + qa_m y + 22, .inr (5, [.int 0, .int 0, .int 0, .int 0, .int 0, .ref (qa_a y 23 0), .ref (qa_a y 24 0), .ref (qa_a y 25 0), .ref (qa_a y 26 0), .ref (qa_a y 27 0), .ref (qa_a y 28 0), .ref (qa_a y 29 0), .ref (qa_a y 30 0), .ref (qa_a y 31 0), .ref (qa_a y 32 0), .ref (qa_a y 33 0), .ref (qa_a y 34 0), .ref (qa_a y 35 0), .ref (qa_a y 36 0), .ref (qa_a y 37 0), .ref (qa_a y 38 0), .ref (qa_a y 39 0), .ref (qa_a y 40 0), .ref (qa_a y 41 0), .ref (qa_a y 42 0), .int 0, .null])) :: (3 + 6 * qa_n y + qa_m y + 23 + 1 + 1 + 1 + 1 + 1, .inl (qa_c y 0, (7, .inl (fun _ => 0)))) :: []) s _ _ := hC
  refine lv_aload_n hx hb d_MD_init_161 rfl (lv_at hl 0 rfl) ?_
  refine lv_bipush (v := 16) hx hb d_MD_init_162 (by decide) ?_
  refine qc_newa (k := 43) (i := 0) (cap := 16) E hC (by simp only [qc_off] <;> omega) Nat.one_pos rfl rfl rfl (show 16 ≤ 16 by decide) rfl (by simp only [qc_R] <;> omega) (by simp only [qc_R] <;> omega) d_MD_init_164 (fun H hC => ?_)
  have hC : qc_C y (qc_v (qa_n y)) (3 + 6 * qa_n y + qa_m y + 23 + 1 + 1 + 1 + 1 + 1 + 1 + 1 + 1 + 1 + 1 + 1 + 1 + 1 + 1 + 1 + 1 + 1 + 1 + 1 + 1 + 1) ((3 + 6 * qa_n y + qa_m y + 22, .inr (5, [.int 0, .int 0, .int 0, .int 0, .int 0, .ref (qa_a y 23 0), .ref (qa_a y 24 0), .ref (qa_a y 25 0), .ref (qa_a y 26 0), .ref (qa_a y 27 0), .ref (qa_a y 28 0), .ref (qa_a y 29 0), .ref (qa_a y 30 0), .ref (qa_a y 31 0), .ref (qa_a y 32 0), .ref (qa_a y 33 0), .ref (qa_a y 34 0), .ref (qa_a y 35 0), .ref (qa_a y 36 0), .ref (qa_a y 37 0), .ref (qa_a y 38 0), .ref (qa_a y 39 0), .ref (qa_a y 40 0), .ref (qa_a y 41 0), .ref (qa_a y 42 0), .int 0, .null])) :: (3 + 6 * qa_n y + qa_m y + 23 + 1 + 1 + 1 + 1 + 1, .inl (qa_c y 0, (7, .inl (fun _ => 0)))) :: []) s _ _ := hC
  refine qc_put (k := 22) (i := 0) (f := 26) E hC rfl rfl (by decide) f_MD_70 rfl (Or.inr ⟨rfl, hnm, rfl⟩) rfl rfl rfl (Nat.le_of_ble_eq_true rfl) d_MD_init_166 (fun H locs hC => ?_)
  have hC : qc_C y (qc_v (qa_n y)) (3 + 6 * qa_n y + qa_m y + 23 + 1 + 1 + 1 + 1 + 1 + 1 + 1 + 1 + 1 + 1 + 1 + 1 + 1 + 1 + 1 + 1 + 1 + 1 + 1 + 1 + 1) ((3 + 6 * qa_n y + qa_m y + 22, .inr (5, [.int 0, .int 0, .int 0, .int 0, .int 0, .ref (qa_a y 23 0), .ref (qa_a y 24 0), .ref (qa_a y 25 0), .ref (qa_a y 26 0), .ref (qa_a y 27 0), .ref (qa_a y 28 0), .ref (qa_a y 29 0), .ref (qa_a y 30 0), .ref (qa_a y 31 0), .ref (qa_a y 32 0), .ref (qa_a y 33 0), .ref (qa_a y 34 0), .ref (qa_a y 35 0), .ref (qa_a y 36 0), .ref (qa_a y 37 0), .ref (qa_a y 38 0), .ref (qa_a y 39 0), .ref (qa_a y 40 0), .ref (qa_a y 41 0), .ref (qa_a y 42 0), .int 0, .ref (qa_a y 43 0)])) :: (3 + 6 * qa_n y + qa_m y + 23 + 1 + 1 + 1 + 1 + 1, .inl (qa_c y 0, (7, .inl (fun _ => 0)))) :: []) s _ _ := hC
  refine lv_aload_n hx hb d_MD_init_169 rfl (lv_at hl 0 rfl) ?_
  refine W.widen (k := 21) (n := 428) (by omega) (by omega) ?_
  have k191 : W p l e (qc_R 1 21 428) s m [.ref (qa_a y 22 0), .int za, .int zb, .int zd].toArray below meth c H locs (21) (428) (MQ below (va_Qv (fun _ : Unit => True) (fun _ U => qc_W y (qc_v (qa_n y)) (3 + 6 * qa_n y + qa_m y + 44) ([]) U) (qc_A y)) [.ref (qa_a y 22 0), .int za, .int zb, .int zd].toArray s 21 428 (qc_A y)) (F0 m 191 ls [.int (nI (qa_n y)), .ref (qa_a y 22 0)]) := by
    refine qc_put (k := 22) (i := 0) (f := 0) E hC rfl rfl (by decide) f_MD_73 rfl (Or.inl rfl) rfl rfl rfl (Nat.le_of_ble_eq_true rfl) d_MD_init_191 (fun H locs hC => ?_)
    have hC : qc_C y (qc_v (qa_n y)) (3 + 6 * qa_n y + qa_m y + 23 + 1 + 1 + 1 + 1 + 1 + 1 + 1 + 1 + 1 + 1 + 1 + 1 + 1 + 1 + 1 + 1 + 1 + 1 + 1 + 1 + 1) ((3 + 6 * qa_n y + qa_m y + 22, .inr (5, [.int (nI (qa_n y)), .int 0, .int 0, .int 0, .int 0, .ref (qa_a y 23 0), .ref (qa_a y 24 0), .ref (qa_a y 25 0), .ref (qa_a y 26 0), .ref (qa_a y 27 0), .ref (qa_a y 28 0), .ref (qa_a y 29 0), .ref (qa_a y 30 0), .ref (qa_a y 31 0), .ref (qa_a y 32 0), .ref (qa_a y 33 0), .ref (qa_a y 34 0), .ref (qa_a y 35 0), .ref (qa_a y 36 0), .ref (qa_a y 37 0), .ref (qa_a y 38 0), .ref (qa_a y 39 0), .ref (qa_a y 40 0), .ref (qa_a y 41 0), .ref (qa_a y 42 0), .int 0, .ref (qa_a y 43 0)])) :: (3 + 6 * qa_n y + qa_m y + 23 + 1 + 1 + 1 + 1 + 1, .inl (qa_c y 0, (7, .inl (fun _ => 0)))) :: []) s _ _ := hC
    refine lv_aload_n hx hb d_MD_init_194 rfl (lv_at hl 0 rfl) ?_
    refine qc_get (k := 22) (i := 0) (f := 0) (val := .int (nI (qa_n y))) E hC rfl rfl (by decide) f_MD_73 rfl rfl d_MD_init_195 ?_
    refine lv_iconst (v := 1) hx hb d_MD_init_198 (by decide) ?_
    refine lv_isub hx hb d_MD_init_199 ?_
    refine lv_iconst (v := 3) hx hb d_MD_init_200 (by decide) ?_
    refine lv_idiv hx hb d_MD_init_201 (by decide) ?_
    refine lv_istore hx hb d_MD_init_202 hl (by decide) rfl (fun ls hl => ?_)
    have hl : lv_has ls 6 [(4, .int (((nI (qa_n y)) - 1) / 3)), (0, .ref (qa_a y 22 0)), (1, .int za), (2, .int zb), (3, .int zd)] := hl
    refine lv_aload_n hx hb d_MD_init_204 rfl (lv_at hl 1 rfl) ?_
    have k221 : W p l e (qc_R 1 21 428) s m [.ref (qa_a y 22 0), .int za, .int zb, .int zd].toArray below meth c H locs (21) (428) (MQ below (va_Qv (fun _ : Unit => True) (fun _ U => qc_W y (qc_v (qa_n y)) (3 + 6 * qa_n y + qa_m y + 44) ([]) U) (qc_A y)) [.ref (qa_a y 22 0), .int za, .int zb, .int zd].toArray s 21 428 (qc_A y)) (F0 m 221 ls [.int (nI (qa_m y)), .ref (qa_a y 22 0)]) := by
      refine qc_put (k := 22) (i := 0) (f := 1) E hC rfl rfl (by decide) f_MD_77 rfl (Or.inl rfl) rfl rfl rfl (Nat.le_of_ble_eq_true rfl) d_MD_init_221 (fun H locs hC => ?_)
      have hC : qc_C y (qc_v (qa_n y)) (3 + 6 * qa_n y + qa_m y + 23 + 1 + 1 + 1 + 1 + 1 + 1 + 1 + 1 + 1 + 1 + 1 + 1 + 1 + 1 + 1 + 1 + 1 + 1 + 1 + 1 + 1) ((3 + 6 * qa_n y + qa_m y + 22, .inr (5, [.int (nI (qa_n y)), .int (nI (qa_m y)), .int 0, .int 0, .int 0, .ref (qa_a y 23 0), .ref (qa_a y 24 0), .ref (qa_a y 25 0), .ref (qa_a y 26 0), .ref (qa_a y 27 0), .ref (qa_a y 28 0), .ref (qa_a y 29 0), .ref (qa_a y 30 0), .ref (qa_a y 31 0), .ref (qa_a y 32 0), .ref (qa_a y 33 0), .ref (qa_a y 34 0), .ref (qa_a y 35 0), .ref (qa_a y 36 0), .ref (qa_a y 37 0), .ref (qa_a y 38 0), .ref (qa_a y 39 0), .ref (qa_a y 40 0), .ref (qa_a y 41 0), .ref (qa_a y 42 0), .int 0, .ref (qa_a y 43 0)])) :: (3 + 6 * qa_n y + qa_m y + 23 + 1 + 1 + 1 + 1 + 1, .inl (qa_c y 0, (7, .inl (fun _ => 0)))) :: []) s _ _ := hC
      refine lv_aload_n hx hb d_MD_init_224 rfl (lv_at hl 1 rfl) ?_
      have k248 : W p l e (qc_R 1 21 428) s m [.ref (qa_a y 22 0), .int za, .int zb, .int zd].toArray below meth c H locs (21) (428) (MQ below (va_Qv (fun _ : Unit => True) (fun _ U => qc_W y (qc_v (qa_n y)) (3 + 6 * qa_n y + qa_m y + 44) ([]) U) (qc_A y)) [.ref (qa_a y 22 0), .int za, .int zb, .int zd].toArray s 21 428 (qc_A y)) (F0 m 248 ls [.int (qa_d y), .ref (qa_a y 22 0)]) := by
        refine qc_put (k := 22) (i := 0) (f := 2) E hC rfl rfl (by decide) f_MD_80 rfl (Or.inl rfl) rfl rfl rfl (Nat.le_of_ble_eq_true rfl) d_MD_init_248 (fun H locs hC => ?_)
        have hC : qc_C y (qc_v (qa_n y)) (3 + 6 * qa_n y + qa_m y + 23 + 1 + 1 + 1 + 1 + 1 + 1 + 1 + 1 + 1 + 1 + 1 + 1 + 1 + 1 + 1 + 1 + 1 + 1 + 1 + 1 + 1) ((3 + 6 * qa_n y + qa_m y + 22, .inr (5, [.int (nI (qa_n y)), .int (nI (qa_m y)), .int (qa_d y), .int 0, .int 0, .ref (qa_a y 23 0), .ref (qa_a y 24 0), .ref (qa_a y 25 0), .ref (qa_a y 26 0), .ref (qa_a y 27 0), .ref (qa_a y 28 0), .ref (qa_a y 29 0), .ref (qa_a y 30 0), .ref (qa_a y 31 0), .ref (qa_a y 32 0), .ref (qa_a y 33 0), .ref (qa_a y 34 0), .ref (qa_a y 35 0), .ref (qa_a y 36 0), .ref (qa_a y 37 0), .ref (qa_a y 38 0), .ref (qa_a y 39 0), .ref (qa_a y 40 0), .ref (qa_a y 41 0), .ref (qa_a y 42 0), .int 0, .ref (qa_a y 43 0)])) :: (3 + 6 * qa_n y + qa_m y + 23 + 1 + 1 + 1 + 1 + 1, .inl (qa_c y 0, (7, .inl (fun _ => 0)))) :: []) s _ _ := hC
        refine lv_iconst (v := 0) hx hb d_MD_init_251 (by decide) ?_
        refine lv_istore hx hb d_MD_init_252 hl (by decide) rfl (fun ls hl => ?_)
        have hl : lv_has ls 6 [(5, .int 0), (4, .int (((nI (qa_n y)) - 1) / 3)), (0, .ref (qa_a y 22 0)), (1, .int za), (2, .int zb), (3, .int zd)] := hl
        have loop : ∀ (d k : Nat) (H : Heap) (locs : List Loc) (ls : Array Slot), k + d = qa_n y → qc_C y (qc_v (qa_n y)) (3 + 6 * qa_n y + qa_m y + 23 + 1 + 1 + 1 + 1 + 1 + 1 + 1 + 1 + 1 + 1 + 1 + 1 + 1 + 1 + 1 + 1 + 1 + 1 + 1 + 1 + 1) ((3 + 6 * qa_n y + qa_m y + 22, .inr (5, [.int (nI (qa_n y)), .int (nI (qa_m y)), .int (qa_d y), .int 0, .int 0, .ref (qa_a y 23 0), .ref (qa_a y 24 0), .ref (qa_a y 25 0), .ref (qa_a y 26 0), .ref (qa_a y 27 0), .ref (qa_a y 28 0), .ref (qa_a y 29 0), .ref (qa_a y 30 0), .ref (qa_a y 31 0), .ref (qa_a y 32 0), .ref (qa_a y 33 0), .ref (qa_a y 34 0), .ref (qa_a y 35 0), .ref (qa_a y 36 0), .ref (qa_a y 37 0), .ref (qa_a y 38 0), .ref (qa_a y 39 0), .ref (qa_a y 40 0), .ref (qa_a y 41 0), .ref (qa_a y 42 0), .int 0, .ref (qa_a y 43 0)])) :: (3 + 6 * qa_n y + qa_m y + 23 + 1 + 1 + 1 + 1 + 1, .inl (qa_c y 0, (7, .inl (fun f => if f < k then ((1 : Int32) <<< (nI (qa_n y) &&& 31)) - 1 else 0)))) :: []) s H locs → lv_has ls 6 [(5, .int (nI k)), (0, .ref (qa_a y 22 0))] → W p l e (qc_R 1 21 428) s m [.ref (qa_a y 22 0), .int za, .int zb, .int zd].toArray below meth c H locs (21) (428) (MQ below (va_Qv (fun _ : Unit => True) (fun _ U => qc_W y (qc_v (qa_n y)) (3 + 6 * qa_n y + qa_m y + 44) ([]) U) (qc_A y)) [.ref (qa_a y 22 0), .int za, .int zb, .int zd].toArray s 21 428 (qc_A y)) (F0 m 254 ls []) := by
          intro d
          induction d with
          | zero =>
            intro k H locs ls hkd hC hl
            obtain rfl : qa_n y = k := by omega
            refine lv_iload hx hb d_MD_init_254 (lv_at hl 0 rfl) ?_
            refine lv_aload_n hx hb d_MD_init_256 rfl (lv_at hl 1 rfl) ?_
            refine qc_get (k := 22) (i := 0) (f := 0) (val := .int (nI (qa_n y))) E hC rfl rfl (by decide) f_MD_73 rfl rfl d_MD_init_257 ?_
            refine lv_icmp_ge hx hb d_MD_init_260 rfl (fun _ => ?_) (fun h9 => absurd (nI_le (Nat.le_refl _) (by omega)) h9)
            have hC : qc_C y (qc_v (qa_n y)) (3 + 6 * qa_n y + qa_m y + 23 + 1 + 1 + 1 + 1 + 1 + 1 + 1 + 1 + 1 + 1 + 1 + 1 + 1 + 1 + 1 + 1 + 1 + 1 + 1 + 1 + 1) ((3 + 6 * qa_n y + qa_m y + 23 + 1 + 1 + 1 + 1 + 1, .inl (qa_c y 0, (7, .inl (fun f => if f < qa_n y then ((1 : Int32) <<< (nI (qa_n y) &&& 31)) - 1 else 0)))) :: []) s _ _ := ⟨hC.1.drop (qc_mc (P := fun z => z ≠ 3 + 6 * qa_n y + qa_m y + 22) (show (3 + 6 * qa_n y + qa_m y + 23 + 1 + 1 + 1 + 1 + 1 : Nat) ≠ 3 + 6 * qa_n y + qa_m y + 22 by omega) (qc_m0 (P := fun z => z ≠ 3 + 6 * qa_n y + qa_m y + 22))) (fun h => by rw [qc_G_at (y := y) (k := 22) (i := 0) (q := 3 + 6 * qa_n y + qa_m y + 22) Nat.one_pos rfl]; exact h), hC.2⟩
            have hC : qc_C y (qc_v (qa_n y)) (3 + 6 * qa_n y + qa_m y + 23 + 1 + 1 + 1 + 1 + 1 + 1 + 1 + 1 + 1 + 1 + 1 + 1 + 1 + 1 + 1 + 1 + 1 + 1 + 1 + 1 + 1) ([]) s _ _ := ⟨hC.1.drop (by intro x hx; cases hx) (fun h => by rw [qc_G_at (y := y) (k := 28) (i := 0) (q := 3 + 6 * qa_n y + qa_m y + 23 + 1 + 1 + 1 + 1 + 1) Nat.one_pos (by simp only [qc_off] <;> omega), qa_cell_a rfl rfl, qc_v28]; exact h), hC.2⟩
            have hC : qc_C y (qc_v (qa_n y)) (3 + 6 * qa_n y + qa_m y + 44) ([]) s _ _ := hC.cast (by omega)
            exact qc_vret E hC hr hlocks (by omega) (by omega) d_MD_init_284
          | succ d ih =>
            intro k H locs ls hkd hC hl
            have hk : k < qa_n y := by omega
            refine lv_iload hx hb d_MD_init_254 (lv_at hl 0 rfl) ?_
            refine lv_aload_n hx hb d_MD_init_256 rfl (lv_at hl 1 rfl) ?_
            refine qc_get (k := 22) (i := 0) (f := 0) (val := .int (nI (qa_n y))) E hC rfl rfl (by decide) f_MD_73 rfl rfl d_MD_init_257 ?_
            refine lv_icmp_ge hx hb d_MD_init_260 rfl (fun h9 => absurd h9 (nI_ge hk (by omega))) (fun _ => ?_)
            refine lv_aload_n hx hb d_MD_init_263 rfl (lv_at hl 1 rfl) ?_
            refine qc_get (k := 22) (i := 0) (f := 10) (val := .ref (qa_a y 28 0)) E hC rfl rfl (by decide) f_MD_25 rfl rfl d_MD_init_264 ?_
            refine lv_iload hx hb d_MD_init_267 (lv_at hl 0 rfl) ?_
            refine lv_iconst (v := 1) hx hb d_MD_init_269 (by decide) ?_
            refine lv_aload_n hx hb d_MD_init_270 rfl (lv_at hl 1 rfl) ?_
            refine qc_get (k := 22) (i := 0) (f := 0) (val := .int (nI (qa_n y))) E hC rfl rfl (by decide) f_MD_73 rfl rfl d_MD_init_271 ?_
            refine lv_ishl hx hb d_MD_init_274 ?_
            refine lv_iconst (v := 1) hx hb d_MD_init_275 (by decide) ?_
            refine lv_isub hx hb d_MD_init_276 ?_
            have hC : qc_C y (qc_v (qa_n y)) (3 + 6 * qa_n y + qa_m y + 23 + 1 + 1 + 1 + 1 + 1 + 1 + 1 + 1 + 1 + 1 + 1 + 1 + 1 + 1 + 1 + 1 + 1 + 1 + 1 + 1 + 1) ((3 + 6 * qa_n y + qa_m y + 23 + 1 + 1 + 1 + 1 + 1, .inl (qa_c y 0, (7, .inl (fun f => if f < k then ((1 : Int32) <<< (nI (qa_n y) &&& 31)) - 1 else 0)))) :: (3 + 6 * qa_n y + qa_m y + 22, .inr (5, [.int (nI (qa_n y)), .int (nI (qa_m y)), .int (qa_d y), .int 0, .int 0, .ref (qa_a y 23 0), .ref (qa_a y 24 0), .ref (qa_a y 25 0), .ref (qa_a y 26 0), .ref (qa_a y 27 0), .ref (qa_a y 28 0), .ref (qa_a y 29 0), .ref (qa_a y 30 0), .ref (qa_a y 31 0), .ref (qa_a y 32 0), .ref (qa_a y 33 0), .ref (qa_a y 34 0), .ref (qa_a y 35 0), .ref (qa_a y 36 0), .ref (qa_a y 37 0), .ref (qa_a y 38 0), .ref (qa_a y 39 0), .ref (qa_a y 40 0), .ref (qa_a y 41 0), .ref (qa_a y 42 0), .int 0, .ref (qa_a y 43 0)])) :: []) s _ _ := ⟨hC.1.swap (show (3 + 6 * qa_n y + qa_m y + 22 : Nat) ≠ 3 + 6 * qa_n y + qa_m y + 23 + 1 + 1 + 1 + 1 + 1 by omega), hC.2⟩
            refine qc_ist (k := 28) (i := 0) (j := k) E hC (by simp only [qc_off] <;> omega) rfl (by omega) (by decide) d_MD_init_277 (fun H locs hC => ?_)
            rw [qc_ifk] at hC
            have hC : qc_C y (qc_v (qa_n y)) (3 + 6 * qa_n y + qa_m y + 23 + 1 + 1 + 1 + 1 + 1 + 1 + 1 + 1 + 1 + 1 + 1 + 1 + 1 + 1 + 1 + 1 + 1 + 1 + 1 + 1 + 1) ((3 + 6 * qa_n y + qa_m y + 23 + 1 + 1 + 1 + 1 + 1, .inl (qa_c y 0, (7, .inl (fun f => if f < k + 1 then ((1 : Int32) <<< (nI (qa_n y) &&& 31)) - 1 else 0)))) :: (3 + 6 * qa_n y + qa_m y + 22, .inr (5, [.int (nI (qa_n y)), .int (nI (qa_m y)), .int (qa_d y), .int 0, .int 0, .ref (qa_a y 23 0), .ref (qa_a y 24 0), .ref (qa_a y 25 0), .ref (qa_a y 26 0), .ref (qa_a y 27 0), .ref (qa_a y 28 0), .ref (qa_a y 29 0), .ref (qa_a y 30 0), .ref (qa_a y 31 0), .ref (qa_a y 32 0), .ref (qa_a y 33 0), .ref (qa_a y 34 0), .ref (qa_a y 35 0), .ref (qa_a y 36 0), .ref (qa_a y 37 0), .ref (qa_a y 38 0), .ref (qa_a y 39 0), .ref (qa_a y 40 0), .ref (qa_a y 41 0), .ref (qa_a y 42 0), .int 0, .ref (qa_a y 43 0)])) :: []) s _ _ := hC
            have hC : qc_C y (qc_v (qa_n y)) (3 + 6 * qa_n y + qa_m y + 23 + 1 + 1 + 1 + 1 + 1 + 1 + 1 + 1 + 1 + 1 + 1 + 1 + 1 + 1 + 1 + 1 + 1 + 1 + 1 + 1 + 1) ((3 + 6 * qa_n y + qa_m y + 22, .inr (5, [.int (nI (qa_n y)), .int (nI (qa_m y)), .int (qa_d y), .int 0, .int 0, .ref (qa_a y 23 0), .ref (qa_a y 24 0), .ref (qa_a y 25 0), .ref (qa_a y 26 0), .ref (qa_a y 27 0), .ref (qa_a y 28 0), .ref (qa_a y 29 0), .ref (qa_a y 30 0), .ref (qa_a y 31 0), .ref (qa_a y 32 0), .ref (qa_a y 33 0), .ref (qa_a y 34 0), .ref (qa_a y 35 0), .ref (qa_a y 36 0), .ref (qa_a y 37 0), .ref (qa_a y 38 0), .ref (qa_a y 39 0), .ref (qa_a y 40 0), .ref (qa_a y 41 0), .ref (qa_a y 42 0), .int 0, .ref (qa_a y 43 0)])) :: (3 + 6 * qa_n y + qa_m y + 23 + 1 + 1 + 1 + 1 + 1, .inl (qa_c y 0, (7, .inl (fun f => if f < k + 1 then ((1 : Int32) <<< (nI (qa_n y) &&& 31)) - 1 else 0)))) :: []) s _ _ := ⟨hC.1.swap (show (3 + 6 * qa_n y + qa_m y + 23 + 1 + 1 + 1 + 1 + 1 : Nat) ≠ 3 + 6 * qa_n y + qa_m y + 22 by omega), hC.2⟩
            refine lv_iinc (v := nI (k + 1)) hx hb d_MD_init_278 hl (k := 0) rfl (nI_1 k) (by decide) rfl (fun ls hl => ?_)
            have hl : lv_has ls 6 [(5, .int (nI (k + 1))), (0, .ref (qa_a y 22 0))] := hl
            refine lv_goto hx hb d_MD_init_281 rfl ?_
            exact ih (k + 1) _ _ ls (by omega) hC (lv_sub hl [0, 1] rfl)
        rw [qc_if0 (x := ((1 : Int32) <<< (nI (qa_n y) &&& 31)) - 1)] at hC
        have hC : qc_C y (qc_v (qa_n y)) (3 + 6 * qa_n y + qa_m y + 23 + 1 + 1 + 1 + 1 + 1 + 1 + 1 + 1 + 1 + 1 + 1 + 1 + 1 + 1 + 1 + 1 + 1 + 1 + 1 + 1 + 1) ((3 + 6 * qa_n y + qa_m y + 22, .inr (5, [.int (nI (qa_n y)), .int (nI (qa_m y)), .int (qa_d y), .int 0, .int 0, .ref (qa_a y 23 0), .ref (qa_a y 24 0), .ref (qa_a y 25 0), .ref (qa_a y 26 0), .ref (qa_a y 27 0), .ref (qa_a y 28 0), .ref (qa_a y 29 0), .ref (qa_a y 30 0), .ref (qa_a y 31 0), .ref (qa_a y 32 0), .ref (qa_a y 33 0), .ref (qa_a y 34 0), .ref (qa_a y 35 0), .ref (qa_a y 36 0), .ref (qa_a y 37 0), .ref (qa_a y 38 0), .ref (qa_a y 39 0), .ref (qa_a y 40 0), .ref (qa_a y 41 0), .ref (qa_a y 42 0), .int 0, .ref (qa_a y 43 0)])) :: (3 + 6 * qa_n y + qa_m y + 23 + 1 + 1 + 1 + 1 + 1, .inl (qa_c y 0, (7, .inl (fun f => if f < 0 then ((1 : Int32) <<< (nI (qa_n y) &&& 31)) - 1 else 0)))) :: []) s _ _ := hC
        exact loop (qa_n y) 0 _ _ ls (by omega) hC (lv_sub hl [0, 2] rfl)
      refine lv_iload_n hx hb d_MD_init_225 rfl (lv_at hl 4 rfl) ?_
      refine lv_iconst (v := 1) hx hb d_MD_init_226 (by decide) ?_
      refine lv_icmp_ge hx hb d_MD_init_227 rfl (fun h227 => ?_) (fun h227 => ?_)
      · refine lv_iload_n hx hb d_MD_init_234 rfl (lv_at hl 4 rfl) ?_
        refine lv_sipush (v := 200) hx hb d_MD_init_235 (by decide) ?_
        refine lv_icmp_le hx hb d_MD_init_238 rfl (fun h238 => ?_) (fun h238 => ?_)
        · refine lv_iload_n hx hb d_MD_init_247 rfl (lv_at hl 4 rfl) ?_
          exact W.eq (g2 := F0 m 248 ls [.int (qa_d y), .ref (qa_a y 22 0)]) (by rw [← hd]; rw [qc_cl_in h227 h238]) k248
        · refine lv_sipush (v := 200) hx hb d_MD_init_241 (by decide) ?_
          refine lv_goto hx hb d_MD_init_244 rfl ?_
          exact W.eq (g2 := F0 m 248 ls [.int (qa_d y), .ref (qa_a y 22 0)]) (by rw [← hd]; rw [qc_cl_hi h238 (by decide)]) k248
      · refine lv_iconst (v := 1) hx hb d_MD_init_230 (by decide) ?_
        refine lv_goto hx hb d_MD_init_231 rfl ?_
        exact W.eq (g2 := F0 m 248 ls [.int (qa_d y), .ref (qa_a y 22 0)]) (by rw [← hd]; rw [qc_cl_lo h227 (by decide)]) k248
    refine lv_iload_n hx hb d_MD_init_205 rfl (lv_at hl 3 rfl) ?_
    refine lv_if_lt hx hb d_MD_init_206 rfl (fun h206 => ?_) (fun h206 => ?_)
    · refine lv_iload hx hb d_MD_init_219 (lv_at hl 0 rfl) ?_
      exact W.eq (g2 := F0 m 221 ls [.int (nI (qa_m y)), .ref (qa_a y 22 0)]) (by rw [← hm, if_neg (fun z => by unfold qm_wi at z; simp only [Bool.and_eq_true, decide_eq_true_eq] at z; exact absurd z.1 (Int32.not_le.mpr h206))]) k221
    · refine lv_iload_n hx hb d_MD_init_209 rfl (lv_at hl 3 rfl) ?_
      refine lv_iload hx hb d_MD_init_210 (lv_at hl 0 rfl) ?_
      refine lv_icmp_gt hx hb d_MD_init_212 rfl (fun h212 => ?_) (fun h212 => ?_)
      · refine lv_iload hx hb d_MD_init_219 (lv_at hl 0 rfl) ?_
        exact W.eq (g2 := F0 m 221 ls [.int (nI (qa_m y)), .ref (qa_a y 22 0)]) (by rw [← hm, if_neg (fun z => by unfold qm_wi at z; simp only [Bool.and_eq_true, decide_eq_true_eq] at z; exact absurd z.2 (Int32.not_le.mpr h212))]) k221
      · refine lv_iload_n hx hb d_MD_init_215 rfl (lv_at hl 3 rfl) ?_
        refine lv_goto hx hb d_MD_init_216 rfl ?_
        exact W.eq (g2 := F0 m 221 ls [.int (nI (qa_m y)), .ref (qa_a y 22 0)]) (by rw [← hm, if_pos (by unfold qm_wi; rw [decide_eq_true (Int32.not_lt.mp h206), decide_eq_true (Int32.not_lt.mp h212)]; rfl)]) k221
  refine lv_iload_n hx hb d_MD_init_170 rfl (lv_at hl 1 rfl) ?_
  refine lv_iconst (v := 4) hx hb d_MD_init_171 (by decide) ?_
  refine lv_icmp_ge hx hb d_MD_init_172 rfl (fun h172 => ?_) (fun h172 => ?_)
  · refine lv_iload_n hx hb d_MD_init_179 rfl (lv_at hl 1 rfl) ?_
    refine lv_bipush (v := 7) hx hb d_MD_init_180 (by decide) ?_
    refine lv_icmp_le hx hb d_MD_init_182 rfl (fun h182 => ?_) (fun h182 => ?_)
    · refine lv_iload_n hx hb d_MD_init_190 rfl (lv_at hl 1 rfl) ?_
      exact W.eq (g2 := F0 m 191 ls [.int (nI (qa_n y)), .ref (qa_a y 22 0)]) (by rw [← hn]; rw [qc_cl_in h172 h182]) k191
    · refine lv_bipush (v := 7) hx hb d_MD_init_185 (by decide) ?_
      refine lv_goto hx hb d_MD_init_187 rfl ?_
      exact W.eq (g2 := F0 m 191 ls [.int (nI (qa_n y)), .ref (qa_a y 22 0)]) (by rw [← hn]; rw [qc_cl_hi h182 (by decide)]) k191
  · refine lv_iconst (v := 4) hx hb d_MD_init_175 (by decide) ?_
    refine lv_goto hx hb d_MD_init_176 rfl ?_
    exact W.eq (g2 := F0 m 191 ls [.int (nI (qa_n y)), .ref (qa_a y 22 0)]) (by rw [← hn]; rw [qc_cl_lo h172 (by decide)]) k191
