set_option maxHeartbeats 4000000 in
set_option maxRecDepth 100000 in
theorem c_VF_clock (l : Launch) (y : qa_L) (v : qa_M) (z a b : Int32) : qa_Mi l y_VF_clock b_VF_clock 4 (some .boolean) 2 [.ref (qa_a y 0 0), .int z, .int a, .int b] y v (fun r u => r = qb (qm_isn (qa_n y) z && (qm_wi a (-500) 500 && qm_wi b (-2) 2)) ∧ u = if (qm_isn (qa_n y) z && (qm_wi a (-500) 500 && qm_wi b (-2) 2)) = true then qa_up (qa_up v 2 (qm_ix z) 6 a) 2 (qm_ix z) 7 b else v) := by
  refine qa_ofMi (plainFor_of_name (by decide)) (Nat.le_of_ble_eq_true rfl) ?_
  intro p e s m below meth c ls E hr hlocks hC hl
  have E : qa_E p m c b_VF_clock 4 s _ "VotedFrames" y := E
  have F := E.1
  have hx := F.1
  have hb := F.2.1
  have hown : s.vm.findClass "VotedFrames" = some m.cls := F.2.2.2.1
  have hts := F.2.2.2.2
  have hn4 : 4 ≤ qa_n y := E.2.1.2.2.1
  have hn7 : qa_n y ≤ 7 := E.2.1.2.2.2.1
  have hl : lv_has ls 4 [(0, .ref (qa_a y 0 0)), (1, .int z), (2, .int a), (3, .int b)] := hl
  by_cases g1 : qm_isn (qa_n y) z = true
  · obtain ⟨i, hi, rfl⟩ := qm_wi_n (by omega) (by omega) g1
    have hl : lv_has ls 4 [(0, .ref (qa_a y 0 0)), (1, .int (nI i)), (2, .int a), (3, .int b)] := hl
    refine lv_aload_n hx hb d_VF_clock_0 rfl (lv_at hl 0 rfl) ?_
    refine lv_iload_n hx hb d_VF_clock_1 rfl (lv_at hl 1 rfl) ?_
    refine qa_pV (k := 0) (i := 0) (As := [.int (nI i)]) E hC (c_VF_isNode l y v (nI i)) Nat.one_pos rfl rfl k_VF_72 (qa_fitR (by decide) (by decide)) rfl hl.1 rfl (Nat.le_of_ble_eq_true rfl) d_VF_clock_2 ?_
    refine lv_if_eq hx hb d_VF_clock_5 rfl (fun h9 => absurd h9 (qb_nz g1)) (fun _ => ?_)
    refine lv_iload_n hx hb d_VF_clock_8 rfl (lv_at hl 2 rfl) ?_
    refine lv_sipush (v := 500) hx hb d_VF_clock_9 (by decide) ?_
    refine qa_pT (As := [.int a, .int 500]) F (c_VF_isAtMost l a 500) k_VF_76 (qa_fitR (by decide) (by decide)) rfl hl.1 rfl (Nat.le_of_ble_eq_true rfl) d_VF_clock_12 ?_
    refine lv_if_eq hx hb d_VF_clock_15 rfl (fun h15 => ?_) (fun h15 => ?_)
    · refine lv_iconst (v := 0) hx hb d_VF_clock_26 (by decide) ?_
      exact qa_mzret E hC hr hlocks ⟨qb_0 (by rw [qb_e0 h15]; simp), by rw [if_neg]; rw [qb_e0 h15]; simp⟩ rfl d_VF_clock_27
    · refine lv_iload_n hx hb d_VF_clock_18 rfl (lv_at hl 3 rfl) ?_
      refine lv_iconst (v := 2) hx hb d_VF_clock_19 (by decide) ?_
      refine qa_pT (As := [.int b, .int 2]) F (c_VF_isAtMost l b 2) k_VF_76 (qa_fitR (by decide) (by decide)) rfl hl.1 rfl (Nat.le_of_ble_eq_true rfl) d_VF_clock_20 ?_
      refine lv_if_ne hx hb d_VF_clock_23 rfl (fun h23 => ?_) (fun h23 => ?_)
      · refine lv_aload_n hx hb d_VF_clock_28 rfl (lv_at hl 0 rfl) ?_
        refine qa_get (k := 0) (i := 0) (f := 3) (val := .ref (qa_a y 1 0)) E hC Nat.one_pos rfl rfl (by decide) f_VF_31 rfl rfl d_VF_clock_29 ?_
        refine lv_iload_n hx hb d_VF_clock_32 rfl (lv_at hl 1 rfl) ?_
        refine qa_ald (k := 1) (i := 0) (j := i) E hC Nat.one_pos rfl rfl rfl rfl rfl hi d_VF_clock_33 ?_
        refine lv_iload_n hx hb d_VF_clock_34 rfl (lv_at hl 2 rfl) ?_
        refine qa_put (k := 2) (i := i) (f := 6) E hC hi rfl rfl (by decide) f_VF_80 rfl rfl rfl rfl d_VF_clock_35 (fun H locs hC => ?_)
        refine lv_aload_n hx hb d_VF_clock_38 rfl (lv_at hl 0 rfl) ?_
        refine qa_get (k := 0) (i := 0) (f := 3) (val := .ref (qa_a y 1 0)) E hC Nat.one_pos rfl rfl (by decide) f_VF_31 rfl rfl d_VF_clock_39 ?_
        refine lv_iload_n hx hb d_VF_clock_42 rfl (lv_at hl 1 rfl) ?_
        refine qa_ald (k := 1) (i := 0) (j := i) E hC Nat.one_pos rfl rfl rfl rfl rfl hi d_VF_clock_43 ?_
        refine lv_iload_n hx hb d_VF_clock_44 rfl (lv_at hl 3 rfl) ?_
        refine qa_put (k := 2) (i := i) (f := 7) E hC hi rfl rfl (by decide) f_VF_85 rfl rfl rfl rfl d_VF_clock_45 (fun H locs hC => ?_)
        refine lv_iconst (v := 1) hx hb d_VF_clock_48 (by decide) ?_
        exact qa_mzret E hC hr hlocks ⟨qb_1 (by rw [g1, qb_n0 h15, qb_n0 h23]; rfl), by rw [if_pos (by rw [g1, qb_n0 h15, qb_n0 h23]; rfl), qm_ix_n (by omega)]⟩ rfl d_VF_clock_49
      · have h23 := qb_e0 h23
        refine lv_iconst (v := 0) hx hb d_VF_clock_26 (by decide) ?_
        exact qa_mzret E hC hr hlocks ⟨qb_0 (by rw [h23]; simp), by rw [if_neg]; rw [h23]; simp⟩ rfl d_VF_clock_27
  · have g0 := Bool.eq_false_iff.mpr g1
    refine lv_aload_n hx hb d_VF_clock_0 rfl (lv_at hl 0 rfl) ?_
    refine lv_iload_n hx hb d_VF_clock_1 rfl (lv_at hl 1 rfl) ?_
    refine qa_pV (k := 0) (i := 0) (As := [.int z]) E hC (c_VF_isNode l y v z) Nat.one_pos rfl rfl k_VF_72 (qa_fitR (by decide) (by decide)) rfl hl.1 rfl (Nat.le_of_ble_eq_true rfl) d_VF_clock_2 ?_
    refine lv_if_eq hx hb d_VF_clock_5 rfl (fun _ => ?_) (fun h9 => absurd (qb_zf g0) h9)
    refine lv_iconst (v := 0) hx hb d_VF_clock_26 (by decide) ?_
    exact qa_mzret E hC hr hlocks ⟨qb_0 (by rw [g0]; rfl), by rw [g0]; rfl⟩ rfl d_VF_clock_27

set_option maxHeartbeats 4000000 in
set_option maxRecDepth 100000 in
theorem c_VF_sensor (l : Launch) (y : qa_L) (v : qa_M) (z a : Int32) : qa_Mi l y_VF_sensor b_VF_sensor 3 (some .boolean) 2 [.ref (qa_a y 0 0), .int z, .int a] y v (fun r u => r = qb (qm_isn (qa_n y) z) ∧ u = if qm_isn (qa_n y) z = true then qa_up v 2 (qm_ix z) 8 a else v) := by
  refine qa_ofMi (plainFor_of_name (by decide)) (Nat.le_of_ble_eq_true rfl) ?_
  intro p e s m below meth c ls E hr hlocks hC hl
  have E : qa_E p m c b_VF_sensor 3 s _ "VotedFrames" y := E
  have F := E.1
  have hx := F.1
  have hb := F.2.1
  have hown : s.vm.findClass "VotedFrames" = some m.cls := F.2.2.2.1
  have hts := F.2.2.2.2
  have hn4 : 4 ≤ qa_n y := E.2.1.2.2.1
  have hn7 : qa_n y ≤ 7 := E.2.1.2.2.2.1
  have hl : lv_has ls 3 [(0, .ref (qa_a y 0 0)), (1, .int z), (2, .int a)] := hl
  by_cases g1 : qm_isn (qa_n y) z = true
  · obtain ⟨i, hi, rfl⟩ := qm_wi_n (by omega) (by omega) g1
    have hl : lv_has ls 3 [(0, .ref (qa_a y 0 0)), (1, .int (nI i)), (2, .int a)] := hl
    refine lv_aload_n hx hb d_VF_sensor_0 rfl (lv_at hl 0 rfl) ?_
    refine lv_iload_n hx hb d_VF_sensor_1 rfl (lv_at hl 1 rfl) ?_
    refine qa_pV (k := 0) (i := 0) (As := [.int (nI i)]) E hC (c_VF_isNode l y v (nI i)) Nat.one_pos rfl rfl k_VF_72 (qa_fitR (by decide) (by decide)) rfl hl.1 rfl (Nat.le_of_ble_eq_true rfl) d_VF_sensor_2 ?_
    refine lv_if_ne hx hb d_VF_sensor_5 rfl (fun _ => ?_) (fun h9 => absurd h9 (qb_nz g1))
    refine lv_aload_n hx hb d_VF_sensor_10 rfl (lv_at hl 0 rfl) ?_
    refine qa_get (k := 0) (i := 0) (f := 3) (val := .ref (qa_a y 1 0)) E hC Nat.one_pos rfl rfl (by decide) f_VF_31 rfl rfl d_VF_sensor_11 ?_
    refine lv_iload_n hx hb d_VF_sensor_14 rfl (lv_at hl 1 rfl) ?_
    refine qa_ald (k := 1) (i := 0) (j := i) E hC Nat.one_pos rfl rfl rfl rfl rfl hi d_VF_sensor_15 ?_
    refine lv_iload_n hx hb d_VF_sensor_16 rfl (lv_at hl 2 rfl) ?_
    refine qa_put (k := 2) (i := i) (f := 8) E hC hi rfl rfl (by decide) f_VF_94 rfl rfl rfl rfl d_VF_sensor_17 (fun H locs hC => ?_)
    refine lv_iconst (v := 1) hx hb d_VF_sensor_20 (by decide) ?_
    exact qa_mzret E hC hr hlocks ⟨qb_1 g1, by rw [if_pos g1, qm_ix_n (by omega)]⟩ rfl d_VF_sensor_21
  · have g0 := Bool.eq_false_iff.mpr g1
    refine lv_aload_n hx hb d_VF_sensor_0 rfl (lv_at hl 0 rfl) ?_
    refine lv_iload_n hx hb d_VF_sensor_1 rfl (lv_at hl 1 rfl) ?_
    refine qa_pV (k := 0) (i := 0) (As := [.int z]) E hC (c_VF_isNode l y v z) Nat.one_pos rfl rfl k_VF_72 (qa_fitR (by decide) (by decide)) rfl hl.1 rfl (Nat.le_of_ble_eq_true rfl) d_VF_sensor_2 ?_
    refine lv_if_ne hx hb d_VF_sensor_5 rfl (fun h9 => absurd (qb_zf g0) h9) (fun _ => ?_)
    refine lv_iconst (v := 0) hx hb d_VF_sensor_8 (by decide) ?_
    exact qa_mzret E hC hr hlocks ⟨qb_0 g0, by rw [g0]; rfl⟩ rfl d_VF_sensor_9

set_option maxHeartbeats 4000000 in
set_option maxRecDepth 100000 in
theorem c_VF_fault (l : Launch) (y : qa_L) (v : qa_M) (z a b : Int32) : qa_Mi l y_VF_fault b_VF_fault 4 (some .boolean) 2 [.ref (qa_a y 0 0), .int z, .int a, .int b] y v (fun r u => r = qb (qm_isn (qa_n y) z && (qm_wi a 0 5 && qm_wi b (-5000) 5000)) ∧ u = if (qm_isn (qa_n y) z && (qm_wi a 0 5 && qm_wi b (-5000) 5000)) = true then qa_up (qa_up v 2 (qm_ix z) 9 a) 2 (qm_ix z) 10 b else v) := by
  refine qa_ofMi (plainFor_of_name (by decide)) (Nat.le_of_ble_eq_true rfl) ?_
  intro p e s m below meth c ls E hr hlocks hC hl
  have E : qa_E p m c b_VF_fault 4 s _ "VotedFrames" y := E
  have F := E.1
  have hx := F.1
  have hb := F.2.1
  have hown : s.vm.findClass "VotedFrames" = some m.cls := F.2.2.2.1
  have hts := F.2.2.2.2
  have hn4 : 4 ≤ qa_n y := E.2.1.2.2.1
  have hn7 : qa_n y ≤ 7 := E.2.1.2.2.2.1
  have hl : lv_has ls 4 [(0, .ref (qa_a y 0 0)), (1, .int z), (2, .int a), (3, .int b)] := hl
  by_cases g1 : qm_isn (qa_n y) z = true
  · obtain ⟨i, hi, rfl⟩ := qm_wi_n (by omega) (by omega) g1
    have hl : lv_has ls 4 [(0, .ref (qa_a y 0 0)), (1, .int (nI i)), (2, .int a), (3, .int b)] := hl
    refine lv_aload_n hx hb d_VF_fault_0 rfl (lv_at hl 0 rfl) ?_
    refine lv_iload_n hx hb d_VF_fault_1 rfl (lv_at hl 1 rfl) ?_
    refine qa_pV (k := 0) (i := 0) (As := [.int (nI i)]) E hC (c_VF_isNode l y v (nI i)) Nat.one_pos rfl rfl k_VF_72 (qa_fitR (by decide) (by decide)) rfl hl.1 rfl (Nat.le_of_ble_eq_true rfl) d_VF_fault_2 ?_
    refine lv_if_eq hx hb d_VF_fault_5 rfl (fun h9 => absurd h9 (qb_nz g1)) (fun _ => ?_)
    refine lv_iload_n hx hb d_VF_fault_8 rfl (lv_at hl 2 rfl) ?_
    refine lv_iconst (v := 0) hx hb d_VF_fault_9 (by decide) ?_
    refine lv_iconst (v := 5) hx hb d_VF_fault_10 (by decide) ?_
    refine qa_pT (As := [.int a, .int 0, .int 5]) F (c_VF_within l a 0 5) k_VF_17 (qa_fitR (by decide) (by decide)) rfl hl.1 rfl (Nat.le_of_ble_eq_true rfl) d_VF_fault_11 ?_
    refine lv_if_eq hx hb d_VF_fault_14 rfl (fun h14 => ?_) (fun h14 => ?_)
    · refine lv_iconst (v := 0) hx hb d_VF_fault_27 (by decide) ?_
      exact qa_mzret E hC hr hlocks ⟨qb_0 (by rw [qb_e0 h14]; simp), by rw [if_neg]; rw [qb_e0 h14]; simp⟩ rfl d_VF_fault_28
    · refine lv_iload_n hx hb d_VF_fault_17 rfl (lv_at hl 3 rfl) ?_
      refine lv_sipush (v := 5000) hx hb d_VF_fault_18 (by decide) ?_
      refine qa_pT (As := [.int b, .int 5000]) F (c_VF_isAtMost l b 5000) k_VF_76 (qa_fitR (by decide) (by decide)) rfl hl.1 rfl (Nat.le_of_ble_eq_true rfl) d_VF_fault_21 ?_
      refine lv_if_ne hx hb d_VF_fault_24 rfl (fun h24 => ?_) (fun h24 => ?_)
      · refine lv_aload_n hx hb d_VF_fault_29 rfl (lv_at hl 0 rfl) ?_
        refine qa_get (k := 0) (i := 0) (f := 3) (val := .ref (qa_a y 1 0)) E hC Nat.one_pos rfl rfl (by decide) f_VF_31 rfl rfl d_VF_fault_30 ?_
        refine lv_iload_n hx hb d_VF_fault_33 rfl (lv_at hl 1 rfl) ?_
        refine qa_ald (k := 1) (i := 0) (j := i) E hC Nat.one_pos rfl rfl rfl rfl rfl hi d_VF_fault_34 ?_
        refine lv_iload_n hx hb d_VF_fault_35 rfl (lv_at hl 2 rfl) ?_
        refine qa_put (k := 2) (i := i) (f := 9) E hC hi rfl rfl (by decide) f_VF_97 rfl rfl rfl rfl d_VF_fault_36 (fun H locs hC => ?_)
        refine lv_aload_n hx hb d_VF_fault_39 rfl (lv_at hl 0 rfl) ?_
        refine qa_get (k := 0) (i := 0) (f := 3) (val := .ref (qa_a y 1 0)) E hC Nat.one_pos rfl rfl (by decide) f_VF_31 rfl rfl d_VF_fault_40 ?_
        refine lv_iload_n hx hb d_VF_fault_43 rfl (lv_at hl 1 rfl) ?_
        refine qa_ald (k := 1) (i := 0) (j := i) E hC Nat.one_pos rfl rfl rfl rfl rfl hi d_VF_fault_44 ?_
        refine lv_iload_n hx hb d_VF_fault_45 rfl (lv_at hl 3 rfl) ?_
        refine qa_put (k := 2) (i := i) (f := 10) E hC hi rfl rfl (by decide) f_VF_100 rfl rfl rfl rfl d_VF_fault_46 (fun H locs hC => ?_)
        refine lv_iconst (v := 1) hx hb d_VF_fault_49 (by decide) ?_
        exact qa_mzret E hC hr hlocks ⟨qb_1 (by rw [g1, qb_n0 h14, qb_n0 h24]; rfl), by rw [if_pos (by rw [g1, qb_n0 h14, qb_n0 h24]; rfl), qm_ix_n (by omega)]⟩ rfl d_VF_fault_50
      · refine lv_iconst (v := 0) hx hb d_VF_fault_27 (by decide) ?_
        exact qa_mzret E hC hr hlocks ⟨qb_0 (by rw [qb_e0 h24]; simp), by rw [if_neg]; rw [qb_e0 h24]; simp⟩ rfl d_VF_fault_28
  · have g0 := Bool.eq_false_iff.mpr g1
    refine lv_aload_n hx hb d_VF_fault_0 rfl (lv_at hl 0 rfl) ?_
    refine lv_iload_n hx hb d_VF_fault_1 rfl (lv_at hl 1 rfl) ?_
    refine qa_pV (k := 0) (i := 0) (As := [.int z]) E hC (c_VF_isNode l y v z) Nat.one_pos rfl rfl k_VF_72 (qa_fitR (by decide) (by decide)) rfl hl.1 rfl (Nat.le_of_ble_eq_true rfl) d_VF_fault_2 ?_
    refine lv_if_eq hx hb d_VF_fault_5 rfl (fun _ => ?_) (fun h9 => absurd (qb_zf g0) h9)
    refine lv_iconst (v := 0) hx hb d_VF_fault_27 (by decide) ?_
    exact qa_mzret E hC hr hlocks ⟨qb_0 (by rw [g0]; rfl), by rw [g0]; rfl⟩ rfl d_VF_fault_28

set_option maxHeartbeats 4000000 in
set_option maxRecDepth 100000 in
theorem c_VF_link (l : Launch) (y : qa_L) (v : qa_M) (z z2 a b : Int32) : qa_Mi l y_VF_link b_VF_link 5 (some .boolean) 2 [.ref (qa_a y 0 0), .int z, .int z2, .int a, .int b] y v (fun r u => r = qb ((qm_isn (qa_n y) z && (qm_isn (qa_n y) z2 && !decide (z = z2))) && (qm_wi a 0 20 && qm_wi b (-3) 3)) ∧ u = if ((qm_isn (qa_n y) z && (qm_isn (qa_n y) z2 && !decide (z = z2))) && (qm_wi a 0 20 && qm_wi b (-3) 3)) = true then qa_up (qa_up v 3 (qm_ix z2) (qm_ix z) a) 4 (qm_ix z2) (qm_ix z) b else v) := by
  refine qa_ofMi (plainFor_of_name (by decide)) (Nat.le_of_ble_eq_true rfl) ?_
  intro p e s m below meth c ls E hr hlocks hC hl
  have E : qa_E p m c b_VF_link 5 s _ "VotedFrames" y := E
  have F := E.1
  have hx := F.1
  have hb := F.2.1
  have hown : s.vm.findClass "VotedFrames" = some m.cls := F.2.2.2.1
  have hts := F.2.2.2.2
  have hn4 : 4 ≤ qa_n y := E.2.1.2.2.1
  have hn7 : qa_n y ≤ 7 := E.2.1.2.2.2.1
  have hl : lv_has ls 5 [(0, .ref (qa_a y 0 0)), (1, .int z), (2, .int z2), (3, .int a), (4, .int b)] := hl
  by_cases g1 : qm_isn (qa_n y) z = true
  · obtain ⟨j, hj, rfl⟩ := qm_wi_n (by omega) (by omega) g1
    by_cases g2 : qm_isn (qa_n y) z2 = true
    · obtain ⟨i, hi, rfl⟩ := qm_wi_n (by omega) (by omega) g2
      have hl : lv_has ls 5 [(0, .ref (qa_a y 0 0)), (1, .int (nI j)), (2, .int (nI i)), (3, .int a), (4, .int b)] := hl
      refine lv_aload_n hx hb d_VF_link_0 rfl (lv_at hl 0 rfl) ?_
      refine lv_iload_n hx hb d_VF_link_1 rfl (lv_at hl 1 rfl) ?_
      refine qa_pV (k := 0) (i := 0) (As := [.int (nI j)]) E hC (c_VF_isNode l y v (nI j)) Nat.one_pos rfl rfl k_VF_72 (qa_fitR (by decide) (by decide)) rfl hl.1 rfl (Nat.le_of_ble_eq_true rfl) d_VF_link_2 ?_
      refine lv_if_eq hx hb d_VF_link_5 rfl (fun h9 => absurd h9 (qb_nz g1)) (fun _ => ?_)
      refine lv_aload_n hx hb d_VF_link_8 rfl (lv_at hl 0 rfl) ?_
      refine lv_iload_n hx hb d_VF_link_9 rfl (lv_at hl 2 rfl) ?_
      refine qa_pV (k := 0) (i := 0) (As := [.int (nI i)]) E hC (c_VF_isNode l y v (nI i)) Nat.one_pos rfl rfl k_VF_72 (qa_fitR (by decide) (by decide)) rfl hl.1 rfl (Nat.le_of_ble_eq_true rfl) d_VF_link_10 ?_
      refine lv_if_eq hx hb d_VF_link_13 rfl (fun h9 => absurd h9 (qb_nz g2)) (fun _ => ?_)
      refine lv_iload_n hx hb d_VF_link_16 rfl (lv_at hl 1 rfl) ?_
      refine lv_iload_n hx hb d_VF_link_17 rfl (lv_at hl 2 rfl) ?_
      refine lv_icmp_ne hx hb d_VF_link_18 rfl (fun h18 => ?_) (fun h18 => ?_)
      · refine lv_iload_n hx hb d_VF_link_23 rfl (lv_at hl 3 rfl) ?_
        refine lv_iconst (v := 0) hx hb d_VF_link_24 (by decide) ?_
        refine lv_bipush (v := 20) hx hb d_VF_link_25 (by decide) ?_
        refine qa_pT (As := [.int a, .int 0, .int 20]) F (c_VF_within l a 0 20) k_VF_17 (qa_fitR (by decide) (by decide)) rfl hl.1 rfl (Nat.le_of_ble_eq_true rfl) d_VF_link_27 ?_
        refine lv_if_eq hx hb d_VF_link_30 rfl (fun h30 => ?_) (fun h30 => ?_)
        · refine lv_iconst (v := 0) hx hb d_VF_link_42 (by decide) ?_
          exact qa_mzret E hC hr hlocks ⟨qb_0 (by rw [qb_e0 h30]; simp), by rw [if_neg]; rw [qb_e0 h30]; simp⟩ rfl d_VF_link_43
        · refine lv_iload hx hb d_VF_link_33 (lv_at hl 4 rfl) ?_
          refine lv_iconst (v := 3) hx hb d_VF_link_35 (by decide) ?_
          refine qa_pT (As := [.int b, .int 3]) F (c_VF_isAtMost l b 3) k_VF_76 (qa_fitR (by decide) (by decide)) rfl hl.1 rfl (Nat.le_of_ble_eq_true rfl) d_VF_link_36 ?_
          refine lv_if_ne hx hb d_VF_link_39 rfl (fun h39 => ?_) (fun h39 => ?_)
          · refine lv_aload_n hx hb d_VF_link_44 rfl (lv_at hl 0 rfl) ?_
            refine qa_get (k := 0) (i := 0) (f := 3) (val := .ref (qa_a y 1 0)) E hC Nat.one_pos rfl rfl (by decide) f_VF_31 rfl rfl d_VF_link_45 ?_
            refine lv_iload_n hx hb d_VF_link_48 rfl (lv_at hl 2 rfl) ?_
            refine qa_ald (k := 1) (i := 0) (j := i) E hC Nat.one_pos rfl rfl rfl rfl rfl hi d_VF_link_49 ?_
            refine qa_get (k := 2) (i := i) (f := 1) (val := .ref (qa_a y 3 i)) E hC hi rfl rfl (by decide) f_VF_88 rfl rfl d_VF_link_50 ?_
            refine lv_iload_n hx hb d_VF_link_53 rfl (lv_at hl 1 rfl) ?_
            refine lv_iload_n hx hb d_VF_link_54 rfl (lv_at hl 3 rfl) ?_
            refine qa_ist (k := 3) (i := i) (j := j) E hC hi rfl rfl rfl hj d_VF_link_55 (fun H locs hC => ?_)
            refine lv_aload_n hx hb d_VF_link_56 rfl (lv_at hl 0 rfl) ?_
            refine qa_get (k := 0) (i := 0) (f := 3) (val := .ref (qa_a y 1 0)) E hC Nat.one_pos rfl rfl (by decide) f_VF_31 rfl rfl d_VF_link_57 ?_
            refine lv_iload_n hx hb d_VF_link_60 rfl (lv_at hl 2 rfl) ?_
            refine qa_ald (k := 1) (i := 0) (j := i) E hC Nat.one_pos rfl rfl rfl rfl rfl hi d_VF_link_61 ?_
            refine qa_get (k := 2) (i := i) (f := 2) (val := .ref (qa_a y 4 i)) E hC hi rfl rfl (by decide) f_VF_91 rfl rfl d_VF_link_62 ?_
            refine lv_iload_n hx hb d_VF_link_65 rfl (lv_at hl 1 rfl) ?_
            refine lv_iload hx hb d_VF_link_66 (lv_at hl 4 rfl) ?_
            refine qa_ist (k := 4) (i := i) (j := j) E hC hi rfl rfl rfl hj d_VF_link_68 (fun H locs hC => ?_)
            refine lv_iconst (v := 1) hx hb d_VF_link_69 (by decide) ?_
            exact qa_mzret E hC hr hlocks ⟨qb_1 (by rw [g1, g2, qb_n0 h30, qb_n0 h39, decide_eq_false h18]; rfl), by rw [if_pos (by rw [g1, g2, qb_n0 h30, qb_n0 h39, decide_eq_false h18]; rfl), qm_ix_n (by omega), qm_ix_n (by omega)]⟩ rfl d_VF_link_70
          · refine lv_iconst (v := 0) hx hb d_VF_link_42 (by decide) ?_
            exact qa_mzret E hC hr hlocks ⟨qb_0 (by rw [qb_e0 h39]; simp), by rw [if_neg]; rw [qb_e0 h39]; simp⟩ rfl d_VF_link_43
      · refine lv_iconst (v := 0) hx hb d_VF_link_21 (by decide) ?_
        exact qa_mzret E hC hr hlocks ⟨qb_0 (by rw [h18]; simp), by rw [if_neg]; rw [h18]; simp⟩ rfl d_VF_link_22
    · have g0 := Bool.eq_false_iff.mpr g2
      have hl : lv_has ls 5 [(0, .ref (qa_a y 0 0)), (1, .int (nI j)), (2, .int z2), (3, .int a), (4, .int b)] := hl
      refine lv_aload_n hx hb d_VF_link_0 rfl (lv_at hl 0 rfl) ?_
      refine lv_iload_n hx hb d_VF_link_1 rfl (lv_at hl 1 rfl) ?_
      refine qa_pV (k := 0) (i := 0) (As := [.int (nI j)]) E hC (c_VF_isNode l y v (nI j)) Nat.one_pos rfl rfl k_VF_72 (qa_fitR (by decide) (by decide)) rfl hl.1 rfl (Nat.le_of_ble_eq_true rfl) d_VF_link_2 ?_
      refine lv_if_eq hx hb d_VF_link_5 rfl (fun h9 => absurd h9 (qb_nz g1)) (fun _ => ?_)
      refine lv_aload_n hx hb d_VF_link_8 rfl (lv_at hl 0 rfl) ?_
      refine lv_iload_n hx hb d_VF_link_9 rfl (lv_at hl 2 rfl) ?_
      refine qa_pV (k := 0) (i := 0) (As := [.int z2]) E hC (c_VF_isNode l y v z2) Nat.one_pos rfl rfl k_VF_72 (qa_fitR (by decide) (by decide)) rfl hl.1 rfl (Nat.le_of_ble_eq_true rfl) d_VF_link_10 ?_
      refine lv_if_eq hx hb d_VF_link_13 rfl (fun _ => ?_) (fun h9 => absurd (qb_zf g0) h9)
      refine lv_iconst (v := 0) hx hb d_VF_link_21 (by decide) ?_
      exact qa_mzret E hC hr hlocks ⟨qb_0 (by rw [g0]; simp), by rw [if_neg]; rw [g0]; simp⟩ rfl d_VF_link_22
  · have g0 := Bool.eq_false_iff.mpr g1
    refine lv_aload_n hx hb d_VF_link_0 rfl (lv_at hl 0 rfl) ?_
    refine lv_iload_n hx hb d_VF_link_1 rfl (lv_at hl 1 rfl) ?_
    refine qa_pV (k := 0) (i := 0) (As := [.int z]) E hC (c_VF_isNode l y v z) Nat.one_pos rfl rfl k_VF_72 (qa_fitR (by decide) (by decide)) rfl hl.1 rfl (Nat.le_of_ble_eq_true rfl) d_VF_link_2 ?_
    refine lv_if_eq hx hb d_VF_link_5 rfl (fun _ => ?_) (fun h9 => absurd (qb_zf g0) h9)
    refine lv_iconst (v := 0) hx hb d_VF_link_21 (by decide) ?_
    exact qa_mzret E hC hr hlocks ⟨qb_0 (by rw [g0]; rfl), by rw [g0]; rfl⟩ rfl d_VF_link_22

set_option maxHeartbeats 4000000 in
set_option maxRecDepth 100000 in
theorem c_VF_due (l : Launch) (y : qa_L) (v : qa_M) (z a b : Int32) : qa_Mi l y_VF_due b_VF_due 4 (some .boolean) 2 [.ref (qa_a y 0 0), .int z, .int a, .int b] y v (fun r u => r = qb (qm_wi z 0 3 && (qm_wi a 1 8 && qm_wi b 0 (a - 1))) ∧ u = if (qm_wi z 0 3 && (qm_wi a 1 8 && qm_wi b 0 (a - 1))) = true then qa_up (qa_up v 13 (qm_ix z) 3 a) 13 (qm_ix z) 4 b else v) := by
  refine qa_ofMi (plainFor_of_name (by decide)) (Nat.le_of_ble_eq_true rfl) ?_
  intro p e s m below meth c ls E hr hlocks hC hl
  have E : qa_E p m c b_VF_due 4 s _ "VotedFrames" y := E
  have F := E.1
  have hx := F.1
  have hb := F.2.1
  have hown : s.vm.findClass "VotedFrames" = some m.cls := F.2.2.2.1
  have hts := F.2.2.2.2
  have hn4 : 4 ≤ qa_n y := E.2.1.2.2.1
  have hn7 : qa_n y ≤ 7 := E.2.1.2.2.2.1
  have hl : lv_has ls 4 [(0, .ref (qa_a y 0 0)), (1, .int z), (2, .int a), (3, .int b)] := hl
  by_cases g1 : qm_wi z 0 3 = true
  · obtain ⟨t, ht, rfl⟩ := qm_wi_4 g1
    have hl : lv_has ls 4 [(0, .ref (qa_a y 0 0)), (1, .int (nI t)), (2, .int a), (3, .int b)] := hl
    refine lv_iload_n hx hb d_VF_due_0 rfl (lv_at hl 1 rfl) ?_
    refine qa_pT (As := [.int (nI t)]) F (c_VF_isTask l (nI t)) k_VF_103 (qa_fitR (by decide) (by decide)) rfl hl.1 rfl (Nat.le_of_ble_eq_true rfl) d_VF_due_1 ?_
    refine lv_if_eq hx hb d_VF_due_4 rfl (fun h9 => absurd h9 (qb_nz g1)) (fun _ => ?_)
    refine lv_iload_n hx hb d_VF_due_7 rfl (lv_at hl 2 rfl) ?_
    refine lv_iconst (v := 1) hx hb d_VF_due_8 (by decide) ?_
    refine lv_bipush (v := 8) hx hb d_VF_due_9 (by decide) ?_
    refine qa_pT (As := [.int a, .int 1, .int 8]) F (c_VF_within l a 1 8) k_VF_17 (qa_fitR (by decide) (by decide)) rfl hl.1 rfl (Nat.le_of_ble_eq_true rfl) d_VF_due_11 ?_
    refine lv_if_eq hx hb d_VF_due_14 rfl (fun h14 => ?_) (fun h14 => ?_)
    · refine lv_iconst (v := 0) hx hb d_VF_due_28 (by decide) ?_
      exact qa_mzret E hC hr hlocks ⟨qb_0 (by rw [qb_e0 h14]; simp), by rw [if_neg]; rw [qb_e0 h14]; simp⟩ rfl d_VF_due_29
    · refine lv_iload_n hx hb d_VF_due_17 rfl (lv_at hl 3 rfl) ?_
      refine lv_iconst (v := 0) hx hb d_VF_due_18 (by decide) ?_
      refine lv_iload_n hx hb d_VF_due_19 rfl (lv_at hl 2 rfl) ?_
      refine lv_iconst (v := 1) hx hb d_VF_due_20 (by decide) ?_
      refine lv_isub hx hb d_VF_due_21 ?_
      refine qa_pT (As := [.int b, .int 0, .int (a - 1)]) F (c_VF_within l b 0 (a - 1)) k_VF_17 (qa_fitR (by decide) (by decide)) rfl hl.1 rfl (Nat.le_of_ble_eq_true rfl) d_VF_due_22 ?_
      refine lv_if_ne hx hb d_VF_due_25 rfl (fun h25 => ?_) (fun h25 => ?_)
      · refine lv_aload_n hx hb d_VF_due_30 rfl (lv_at hl 0 rfl) ?_
        refine qa_get (k := 0) (i := 0) (f := 5) (val := .ref (qa_a y 12 0)) E hC Nat.one_pos rfl rfl (by decide) f_VF_48 rfl rfl d_VF_due_31 ?_
        refine lv_iload_n hx hb d_VF_due_34 rfl (lv_at hl 1 rfl) ?_
        refine qa_ald (k := 12) (i := 0) (j := t) E hC Nat.one_pos rfl rfl rfl rfl rfl ht d_VF_due_35 ?_
        refine lv_iload_n hx hb d_VF_due_36 rfl (lv_at hl 2 rfl) ?_
        refine qa_put (k := 13) (i := t) (f := 3) E hC ht rfl rfl (by decide) f_VF_118 rfl rfl rfl rfl d_VF_due_37 (fun H locs hC => ?_)
        refine lv_aload_n hx hb d_VF_due_40 rfl (lv_at hl 0 rfl) ?_
        refine qa_get (k := 0) (i := 0) (f := 5) (val := .ref (qa_a y 12 0)) E hC Nat.one_pos rfl rfl (by decide) f_VF_48 rfl rfl d_VF_due_41 ?_
        refine lv_iload_n hx hb d_VF_due_44 rfl (lv_at hl 1 rfl) ?_
        refine qa_ald (k := 12) (i := 0) (j := t) E hC Nat.one_pos rfl rfl rfl rfl rfl ht d_VF_due_45 ?_
        refine lv_iload_n hx hb d_VF_due_46 rfl (lv_at hl 3 rfl) ?_
        refine qa_put (k := 13) (i := t) (f := 4) E hC ht rfl rfl (by decide) f_VF_121 rfl rfl rfl rfl d_VF_due_47 (fun H locs hC => ?_)
        refine lv_iconst (v := 1) hx hb d_VF_due_50 (by decide) ?_
        exact qa_mzret E hC hr hlocks ⟨qb_1 (by rw [g1, qb_n0 h14, qb_n0 h25]; rfl), by rw [if_pos (by rw [g1, qb_n0 h14, qb_n0 h25]; rfl), qm_ix_n (by omega)]⟩ rfl d_VF_due_51
      · refine lv_iconst (v := 0) hx hb d_VF_due_28 (by decide) ?_
        exact qa_mzret E hC hr hlocks ⟨qb_0 (by rw [qb_e0 h25]; simp), by rw [if_neg]; rw [qb_e0 h25]; simp⟩ rfl d_VF_due_29
  · have g0 := Bool.eq_false_iff.mpr g1
    refine lv_iload_n hx hb d_VF_due_0 rfl (lv_at hl 1 rfl) ?_
    refine qa_pT (As := [.int z]) F (c_VF_isTask l z) k_VF_103 (qa_fitR (by decide) (by decide)) rfl hl.1 rfl (Nat.le_of_ble_eq_true rfl) d_VF_due_1 ?_
    refine lv_if_eq hx hb d_VF_due_4 rfl (fun _ => ?_) (fun h9 => absurd (qb_zf g0) h9)
    refine lv_iconst (v := 0) hx hb d_VF_due_28 (by decide) ?_
    exact qa_mzret E hC hr hlocks ⟨qb_0 (by rw [g0]; rfl), by rw [g0]; rfl⟩ rfl d_VF_due_29

set_option maxHeartbeats 4000000 in
set_option maxRecDepth 100000 in
theorem c_TK_append (l : Launch) (y : qa_L) (v : qa_M) (t L : Nat) (a b : Int32) (ht : t < 4) (hL : v 13 t 2 = nI L) (hL12 : L ≤ 12) : qa_Mi l y_TK_append b_TK_append 3 (some .boolean) 0 [.ref (qa_a y 13 t), .int a, .int b] y v (fun r u => r = qb (decide (L < 12)) ∧ u = if L < 12 then qa_up (qa_up (qa_up v 14 t L a) 15 t L b) 13 t 2 (nI (L + 1)) else v) := by
  refine qa_ofMi (plainFor_of_name (by decide)) (Nat.le_of_ble_eq_true rfl) ?_
  intro p e s m below meth c ls E hr hlocks hC hl
  have E : qa_E p m c b_TK_append 3 s _ "VotedFrames$Task" y := E
  have F := E.1
  have hx := F.1
  have hb := F.2.1
  have hown : s.vm.findClass "VotedFrames$Task" = some m.cls := F.2.2.2.1
  have hts := F.2.2.2.2
  have hn4 : 4 ≤ qa_n y := E.2.1.2.2.1
  have hn7 : qa_n y ≤ 7 := E.2.1.2.2.2.1
  have hl : lv_has ls 3 [(0, .ref (qa_a y 13 t)), (1, .int a), (2, .int b)] := hl
  by_cases hL : L < 12
  · refine lv_aload_n hx hb d_TK_append_0 rfl (lv_at hl 0 rfl) ?_
    refine qa_get (k := 13) (i := t) (f := 2) (val := .int (v 13 t 2)) E hC ht rfl rfl (by decide) f_TK_16 rfl rfl d_TK_append_1 ?_
    refine lv_bipush (v := 12) hx hb d_TK_append_4 (by decide) ?_
    refine lv_icmp_lt hx hb d_TK_append_6 rfl (fun _ => ?_) (fun h9 => absurd (show v 13 t 2 < 12 by rw [‹v 13 t 2 = nI L›]; exact nI_lt hL (by decide)) h9)
    refine lv_aload_n hx hb d_TK_append_11 rfl (lv_at hl 0 rfl) ?_
    refine qa_get (k := 13) (i := t) (f := 0) (val := .ref (qa_a y 14 t)) E hC ht rfl rfl (by decide) f_TK_9 rfl rfl d_TK_append_12 ?_
    refine lv_aload_n hx hb d_TK_append_15 rfl (lv_at hl 0 rfl) ?_
    refine qa_get (k := 13) (i := t) (f := 2) (val := .int (v 13 t 2)) E hC ht rfl rfl (by decide) f_TK_16 rfl rfl d_TK_append_16 ?_
    refine lv_iload_n hx hb d_TK_append_19 rfl (lv_at hl 1 rfl) ?_
    refine qa_ist (k := 14) (i := t) (j := L) E hC ht rfl rfl ‹v 13 t 2 = nI L› hL d_TK_append_20 (fun H locs hC => ?_)
    refine lv_aload_n hx hb d_TK_append_21 rfl (lv_at hl 0 rfl) ?_
    refine qa_get (k := 13) (i := t) (f := 1) (val := .ref (qa_a y 15 t)) E hC ht rfl rfl (by decide) f_TK_13 rfl rfl d_TK_append_22 ?_
    refine lv_aload_n hx hb d_TK_append_25 rfl (lv_at hl 0 rfl) ?_
    refine qa_get (k := 13) (i := t) (f := 2) (val := .int ((qa_up v 14 t L a) 13 t 2)) E hC ht rfl rfl (by decide) f_TK_16 rfl rfl d_TK_append_26 ?_
    refine lv_iload_n hx hb d_TK_append_29 rfl (lv_at hl 2 rfl) ?_
    refine qa_ist (k := 15) (i := t) (j := L) E hC ht rfl rfl (show qa_up v 14 t L a 13 t 2 = nI L by rw [qa_up_k (by decide)]; assumption) hL d_TK_append_30 (fun H locs hC => ?_)
    refine lv_aload_n hx hb d_TK_append_31 rfl (lv_at hl 0 rfl) ?_
    refine lv_dup hx hb d_TK_append_32 rfl ?_
    refine qa_get (k := 13) (i := t) (f := 2) (val := .int ((qa_up (qa_up v 14 t L a) 15 t L b) 13 t 2)) E hC ht rfl rfl (by decide) f_TK_16 rfl rfl d_TK_append_33 ?_
    refine lv_iconst (v := 1) hx hb d_TK_append_36 (by decide) ?_
    refine lv_iadd hx hb d_TK_append_37 ?_
    refine qa_put (k := 13) (i := t) (f := 2) E hC ht rfl rfl (by decide) f_TK_16 rfl rfl rfl rfl d_TK_append_38 (fun H locs hC => ?_)
    refine lv_iconst (v := 1) hx hb d_TK_append_41 (by decide) ?_
    exact qa_mzret E hC hr hlocks ⟨qb_1 (decide_eq_true hL), by rw [if_pos hL, qa_up_k (by decide), qa_up_k (by decide), ‹v 13 t 2 = nI L›, nI_1]⟩ rfl d_TK_append_42
  · refine lv_aload_n hx hb d_TK_append_0 rfl (lv_at hl 0 rfl) ?_
    refine qa_get (k := 13) (i := t) (f := 2) (val := .int (v 13 t 2)) E hC ht rfl rfl (by decide) f_TK_16 rfl rfl d_TK_append_1 ?_
    refine lv_bipush (v := 12) hx hb d_TK_append_4 (by decide) ?_
    refine lv_icmp_lt hx hb d_TK_append_6 rfl (fun h9 => absurd h9 (show ¬ v 13 t 2 < 12 by rw [‹v 13 t 2 = nI L›]; exact nI_nlt (b := 12) (by omega) (by omega))) (fun _ => ?_)
    refine lv_iconst (v := 0) hx hb d_TK_append_9 (by decide) ?_
    exact qa_mzret E hC hr hlocks ⟨qb_0 (decide_eq_false hL), by rw [if_neg hL]⟩ rfl d_TK_append_10

set_option maxHeartbeats 4000000 in
set_option maxRecDepth 100000 in
theorem c_TK_empty (l : Launch) (y : qa_L) (v : qa_M) (t : Nat) (ht : t < 4) : qa_Mi l y_TK_empty b_TK_empty 2 (some .int) 0 [.ref (qa_a y 13 t)] y v (fun r u => r = v 13 t 2 ∧ u = qa_up (qa_up v 13 t 2 0) 13 t 3 0) := by
  refine qa_ofMi (plainFor_of_name (by decide)) (Nat.le_of_ble_eq_true rfl) ?_
  intro p e s m below meth c ls E hr hlocks hC hl
  have E : qa_E p m c b_TK_empty 2 s _ "VotedFrames$Task" y := E
  have F := E.1
  have hx := F.1
  have hb := F.2.1
  have hown : s.vm.findClass "VotedFrames$Task" = some m.cls := F.2.2.2.1
  have hts := F.2.2.2.2
  have hn4 : 4 ≤ qa_n y := E.2.1.2.2.1
  have hn7 : qa_n y ≤ 7 := E.2.1.2.2.2.1
  have hl : lv_has ls 2 [(0, .ref (qa_a y 13 t))] := hl
  refine lv_aload_n hx hb d_TK_empty_0 rfl (lv_at hl 0 rfl) ?_
  refine qa_get (k := 13) (i := t) (f := 2) (val := .int (v 13 t 2)) E hC ht rfl rfl (by decide) f_TK_16 rfl rfl d_TK_empty_1 ?_
  refine lv_istore_n hx hb d_TK_empty_4 rfl hl (by decide) rfl (fun ls hl => ?_)
  have hl : lv_has ls 2 [(1, .int (v 13 t 2)), (0, .ref (qa_a y 13 t))] := hl
  refine lv_aload_n hx hb d_TK_empty_5 rfl (lv_at hl 1 rfl) ?_
  refine lv_iconst (v := 0) hx hb d_TK_empty_6 (by decide) ?_
  refine qa_put (k := 13) (i := t) (f := 2) E hC ht rfl rfl (by decide) f_TK_16 rfl rfl rfl rfl d_TK_empty_7 (fun H locs hC => ?_)
  refine lv_aload_n hx hb d_TK_empty_10 rfl (lv_at hl 1 rfl) ?_
  refine lv_iconst (v := 0) hx hb d_TK_empty_11 (by decide) ?_
  refine qa_put (k := 13) (i := t) (f := 3) E hC ht rfl rfl (by decide) f_TK_20 rfl rfl rfl rfl d_TK_empty_12 (fun H locs hC => ?_)
  refine lv_iload_n hx hb d_TK_empty_15 rfl (lv_at hl 0 rfl) ?_
  exact qa_mret E hC hr hlocks ⟨rfl, rfl⟩ d_TK_empty_16

set_option maxHeartbeats 4000000 in
set_option maxRecDepth 100000 in
theorem c_TK_isDueIn (l : Launch) (y : qa_L) (v : qa_M) (t : Nat) (f : Int32) (ht : t < 4) : qa_Pu l y_TK_isDueIn b_TK_isDueIn 2 (some .boolean) 0 [.ref (qa_a y 13 t), .int f] (qa_W y v) (qb (qm_due v t f)) := by
  refine qa_ofPu (plainFor_of_name (by decide)) (Nat.le_of_ble_eq_true rfl) ?_
  intro p e s m below meth c ls F hr hlocks hW hl
  have E : qa_E p m c b_TK_isDueIn 2 s _ "VotedFrames$Task" y := ⟨F, hW.2⟩
  have hC : qa_C y v s s.heap [] := ⟨hW.1, va_S.rf⟩
  have hx := F.1
  have hb := F.2.1
  have hown : s.vm.findClass "VotedFrames$Task" = some m.cls := F.2.2.2.1
  have hts := F.2.2.2.2
  have hn4 : 4 ≤ qa_n y := E.2.1.2.2.1
  have hn7 : qa_n y ≤ 7 := E.2.1.2.2.2.1
  have hl : lv_has ls 2 [(0, .ref (qa_a y 13 t)), (1, .int f)] := hl
  refine lv_aload_n hx hb d_TK_isDueIn_0 rfl (lv_at hl 0 rfl) ?_
  refine qa_get (k := 13) (i := t) (f := 3) (val := .int (v 13 t 3)) E hC ht rfl rfl (by decide) f_TK_20 rfl rfl d_TK_isDueIn_1 ?_
  refine lv_if_le hx hb d_TK_isDueIn_4 rfl (fun h4 => ?_) (fun h4 => ?_)
  · refine lv_iconst (v := 0) hx hb d_TK_isDueIn_24 (by decide) ?_
    exact qa_zret hx hb hr hlocks (qb_0 (by unfold qm_due; rw [decide_eq_false (fun q => qm_nle q h4)]; rfl)) rfl d_TK_isDueIn_25
  · refine lv_iload_n hx hb d_TK_isDueIn_7 rfl (lv_at hl 1 rfl) ?_
    refine lv_aload_n hx hb d_TK_isDueIn_8 rfl (lv_at hl 0 rfl) ?_
    refine qa_get (k := 13) (i := t) (f := 3) (val := .int (v 13 t 3)) E hC ht rfl rfl (by decide) f_TK_20 rfl rfl d_TK_isDueIn_9 ?_
    refine lv_irem hx hb d_TK_isDueIn_12 (fun q => h4 (by rw [q]; decide)) ?_
    refine lv_aload_n hx hb d_TK_isDueIn_13 rfl (lv_at hl 0 rfl) ?_
    refine qa_get (k := 13) (i := t) (f := 4) (val := .int (v 13 t 4)) E hC ht rfl rfl (by decide) f_TK_23 rfl rfl d_TK_isDueIn_14 ?_
    refine lv_icmp_ne hx hb d_TK_isDueIn_17 rfl (fun h17 => ?_) (fun h17 => ?_)
    · refine lv_iconst (v := 0) hx hb d_TK_isDueIn_24 (by decide) ?_
      exact qa_zret hx hb hr hlocks (qb_0 (by unfold qm_due; rw [decide_eq_false h17]; simp)) rfl d_TK_isDueIn_25
    · refine lv_iconst (v := 1) hx hb d_TK_isDueIn_20 (by decide) ?_
      refine lv_goto hx hb d_TK_isDueIn_21 rfl ?_
      exact qa_zret hx hb hr hlocks (qb_1 (by unfold qm_due; rw [decide_eq_true (qm_lt h4), decide_eq_true h17]; rfl)) rfl d_TK_isDueIn_25

set_option maxHeartbeats 4000000 in
set_option maxRecDepth 100000 in
theorem c_VF_code (l : Launch) (y : qa_L) (v : qa_M) (z a b : Int32) (len : Nat → Nat) (hlen : ∀ t, t < 4 → v 13 t 2 = nI (len t) ∧ len t ≤ 12) : qa_Mi l y_VF_code b_VF_code 4 (some .boolean) 3 [.ref (qa_a y 0 0), .int z, .int a, .int b] y v (fun r u => r = qb ((qm_wi z 0 3 && (qm_wi a 0 9 && qm_fits (qa_n y) a b)) && decide (len (qm_ix z) < 12)) ∧ u = if (qm_wi z 0 3 && (qm_wi a 0 9 && qm_fits (qa_n y) a b)) = true ∧ len (qm_ix z) < 12 then qa_up (qa_up (qa_up v 14 (qm_ix z) (len (qm_ix z)) a) 15 (qm_ix z) (len (qm_ix z)) b) 13 (qm_ix z) 2 (nI (len (qm_ix z) + 1)) else v) := by
  refine qa_ofMi (plainFor_of_name (by decide)) (Nat.le_of_ble_eq_true rfl) ?_
  intro p e s m below meth c ls E hr hlocks hC hl
  have E : qa_E p m c b_VF_code 4 s _ "VotedFrames" y := E
  have F := E.1
  have hx := F.1
  have hb := F.2.1
  have hown : s.vm.findClass "VotedFrames" = some m.cls := F.2.2.2.1
  have hts := F.2.2.2.2
  have hn4 : 4 ≤ qa_n y := E.2.1.2.2.1
  have hn7 : qa_n y ≤ 7 := E.2.1.2.2.2.1
  have hl : lv_has ls 4 [(0, .ref (qa_a y 0 0)), (1, .int z), (2, .int a), (3, .int b)] := hl
  by_cases g1 : qm_wi z 0 3 = true
  · obtain ⟨t, ht, rfl⟩ := qm_wi_4 g1
    obtain ⟨hL, hL12⟩ := hlen t ht
    rw [show qm_ix (nI t) = t from qm_ix_n (by omega)]
    have hl : lv_has ls 4 [(0, .ref (qa_a y 0 0)), (1, .int (nI t)), (2, .int a), (3, .int b)] := hl
    refine lv_iload_n hx hb d_VF_code_0 rfl (lv_at hl 1 rfl) ?_
    refine qa_pT (As := [.int (nI t)]) F (c_VF_isTask l (nI t)) k_VF_103 (qa_fitR (by decide) (by decide)) rfl hl.1 rfl (Nat.le_of_ble_eq_true rfl) d_VF_code_1 ?_
    refine lv_if_eq hx hb d_VF_code_4 rfl (fun h9 => absurd h9 (qb_nz g1)) (fun _ => ?_)
    refine lv_iload_n hx hb d_VF_code_7 rfl (lv_at hl 2 rfl) ?_
    refine lv_iconst (v := 0) hx hb d_VF_code_8 (by decide) ?_
    refine lv_bipush (v := 9) hx hb d_VF_code_9 (by decide) ?_
    refine qa_pT (As := [.int a, .int 0, .int 9]) F (c_VF_within l a 0 9) k_VF_17 (qa_fitR (by decide) (by decide)) rfl hl.1 rfl (Nat.le_of_ble_eq_true rfl) d_VF_code_11 ?_
    refine lv_if_eq hx hb d_VF_code_14 rfl (fun h14 => ?_) (fun h14 => ?_)
    · refine lv_iconst (v := 0) hx hb d_VF_code_26 (by decide) ?_
      exact qa_mzret E hC hr hlocks ⟨qb_0 (by rw [qb_e0 h14]; simp), by rw [if_neg]; rw [qb_e0 h14]; simp⟩ rfl d_VF_code_27
    · refine lv_aload_n hx hb d_VF_code_17 rfl (lv_at hl 0 rfl) ?_
      refine lv_iload_n hx hb d_VF_code_18 rfl (lv_at hl 2 rfl) ?_
      refine lv_iload_n hx hb d_VF_code_19 rfl (lv_at hl 3 rfl) ?_
      refine qa_pV (k := 0) (i := 0) (As := [.int a, .int b]) E hC (c_VF_fitsInstruction l y v a b) Nat.one_pos rfl rfl k_VF_106 (qa_fitR (by decide) (by decide)) rfl hl.1 rfl (Nat.le_of_ble_eq_true rfl) d_VF_code_20 ?_
      refine lv_if_ne hx hb d_VF_code_23 rfl (fun h23 => ?_) (fun h23 => ?_)
      · refine lv_aload_n hx hb d_VF_code_28 rfl (lv_at hl 0 rfl) ?_
        refine qa_get (k := 0) (i := 0) (f := 5) (val := .ref (qa_a y 12 0)) E hC Nat.one_pos rfl rfl (by decide) f_VF_48 rfl rfl d_VF_code_29 ?_
        refine lv_iload_n hx hb d_VF_code_32 rfl (lv_at hl 1 rfl) ?_
        refine qa_ald (k := 12) (i := 0) (j := t) E hC Nat.one_pos rfl rfl rfl rfl rfl ht d_VF_code_33 ?_
        refine lv_iload_n hx hb d_VF_code_34 rfl (lv_at hl 2 rfl) ?_
        refine lv_iload_n hx hb d_VF_code_35 rfl (lv_at hl 3 rfl) ?_
        refine qa_mV (k := 13) (i := t) (As := [.int a, .int b]) E hC (c_TK_append l y v t (len t) a b ht hL hL12) ht rfl rfl k_VF_109 (qa_fitR (by decide) (by decide)) rfl hl.1 rfl (Nat.le_of_ble_eq_true rfl) d_VF_code_36 (fun r1 u1 H locs hp1 hC => ?_)
        exact qa_mzret E hC hr hlocks ⟨by rw [hp1.1, g1, qb_n0 h14, qb_n0 h23]; rfl, by rw [hp1.2, g1, qb_n0 h14, qb_n0 h23]; simp⟩ (by rw [hp1.1]; exact qb_nar _) d_VF_code_39
      · refine lv_iconst (v := 0) hx hb d_VF_code_26 (by decide) ?_
        exact qa_mzret E hC hr hlocks ⟨qb_0 (by rw [qb_e0 h23]; simp), by rw [if_neg]; rw [qb_e0 h23]; simp⟩ rfl d_VF_code_27
  · have g0 := Bool.eq_false_iff.mpr g1
    refine lv_iload_n hx hb d_VF_code_0 rfl (lv_at hl 1 rfl) ?_
    refine qa_pT (As := [.int z]) F (c_VF_isTask l z) k_VF_103 (qa_fitR (by decide) (by decide)) rfl hl.1 rfl (Nat.le_of_ble_eq_true rfl) d_VF_code_1 ?_
    refine lv_if_eq hx hb d_VF_code_4 rfl (fun _ => ?_) (fun h9 => absurd (qb_zf g0) h9)
    refine lv_iconst (v := 0) hx hb d_VF_code_26 (by decide) ?_
    exact qa_mzret E hC hr hlocks ⟨qb_0 (by rw [g0]; rfl), by rw [if_neg]; rw [g0]; simp⟩ rfl d_VF_code_27

set_option maxHeartbeats 4000000 in
set_option maxRecDepth 100000 in
theorem c_VF_clear (l : Launch) (y : qa_L) (v : qa_M) (z : Int32) : qa_Mi l y_VF_clear b_VF_clear 2 (some .int) 2 [.ref (qa_a y 0 0), .int z] y v (fun r u => r = (if qm_wi z 0 3 = true then v 13 (qm_ix z) 2 else -1) ∧ u = if qm_wi z 0 3 = true then qa_up (qa_up v 13 (qm_ix z) 2 0) 13 (qm_ix z) 3 0 else v) := by
  refine qa_ofMi (plainFor_of_name (by decide)) (Nat.le_of_ble_eq_true rfl) ?_
  intro p e s m below meth c ls E hr hlocks hC hl
  have E : qa_E p m c b_VF_clear 2 s _ "VotedFrames" y := E
  have F := E.1
  have hx := F.1
  have hb := F.2.1
  have hown : s.vm.findClass "VotedFrames" = some m.cls := F.2.2.2.1
  have hts := F.2.2.2.2
  have hn4 : 4 ≤ qa_n y := E.2.1.2.2.1
  have hn7 : qa_n y ≤ 7 := E.2.1.2.2.2.1
  have hl : lv_has ls 2 [(0, .ref (qa_a y 0 0)), (1, .int z)] := hl
  by_cases g1 : qm_wi z 0 3 = true
  · obtain ⟨t, ht, rfl⟩ := qm_wi_4 g1
    have hl : lv_has ls 2 [(0, .ref (qa_a y 0 0)), (1, .int (nI t))] := hl
    refine lv_iload_n hx hb d_VF_clear_0 rfl (lv_at hl 1 rfl) ?_
    refine qa_pT (As := [.int (nI t)]) F (c_VF_isTask l (nI t)) k_VF_103 (qa_fitR (by decide) (by decide)) rfl hl.1 rfl (Nat.le_of_ble_eq_true rfl) d_VF_clear_1 ?_
    refine lv_if_eq hx hb d_VF_clear_4 rfl (fun h9 => absurd h9 (qb_nz g1)) (fun _ => ?_)
    refine lv_aload_n hx hb d_VF_clear_7 rfl (lv_at hl 0 rfl) ?_
    refine qa_get (k := 0) (i := 0) (f := 5) (val := .ref (qa_a y 12 0)) E hC Nat.one_pos rfl rfl (by decide) f_VF_48 rfl rfl d_VF_clear_8 ?_
    refine lv_iload_n hx hb d_VF_clear_11 rfl (lv_at hl 1 rfl) ?_
    refine qa_ald (k := 12) (i := 0) (j := t) E hC Nat.one_pos rfl rfl rfl rfl rfl ht d_VF_clear_12 ?_
    refine qa_mV (k := 13) (i := t) (As := []) E hC (c_TK_empty l y v t ht) ht rfl rfl k_VF_114 (qa_fitR (by decide) (by decide)) rfl hl.1 rfl (Nat.le_of_ble_eq_true rfl) d_VF_clear_13 (fun r1 u1 H locs hp1 hC => ?_)
    refine lv_goto hx hb d_VF_clear_16 rfl ?_
    exact qa_mret E hC hr hlocks ⟨by rw [hp1.1, if_pos g1, qm_ix_n (by omega)], by rw [hp1.2, if_pos g1, qm_ix_n (by omega)]⟩ d_VF_clear_20
  · refine lv_iload_n hx hb d_VF_clear_0 rfl (lv_at hl 1 rfl) ?_
    refine qa_pT (As := [.int z]) F (c_VF_isTask l z) k_VF_103 (qa_fitR (by decide) (by decide)) rfl hl.1 rfl (Nat.le_of_ble_eq_true rfl) d_VF_clear_1 ?_
    refine lv_if_eq hx hb d_VF_clear_4 rfl (fun _ => ?_) (fun h9 => absurd (qb_zf (Bool.eq_false_iff.mpr g1)) h9)
    refine lv_iconst (v := -1) hx hb d_VF_clear_19 (by decide) ?_
    exact qa_mret E hC hr hlocks ⟨by rw [if_neg g1], by rw [if_neg g1]⟩ d_VF_clear_20
