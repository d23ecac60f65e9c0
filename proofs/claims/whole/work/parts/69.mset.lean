set_option maxHeartbeats 4000000 in
set_option maxRecDepth 100000 in
theorem c_MD_clock (l : Launch) (y : qa_L) (v : qa_M) (z a b : Int32) (w : qa_M) (hR : qm_RM (qa_n y) w v) : qa_Mi l y_MD_clock b_MD_clock 4 (some .boolean) 1 [.ref (qa_a y 22 0), .int z, .int a, .int b] y v (fun r u => r = qb (qm_isn (qa_n y) z && (qm_wi a (-500) 500 && qm_wi b (-2) 2)) ∧ qm_RM (qa_n y) (if (qm_isn (qa_n y) z && (qm_wi a (-500) 500 && qm_wi b (-2) 2)) = true then qa_up (qa_up w 2 (qm_ix z) 6 a) 2 (qm_ix z) 7 b else w) u ∧ (∀ c b f, c < 22 → u c b f = v c b f)) := by
  refine qa_ofMi (plainFor_of_name (by decide)) (Nat.le_of_ble_eq_true rfl) ?_
  intro p e s m below meth c ls E hr hlocks hC hl
  have E : qa_E p m c b_MD_clock 4 s _ "VotedFramesModel" y := E
  have F := E.1
  have hx := F.1
  have hb := F.2.1
  have hown : s.vm.findClass "VotedFramesModel" = some m.cls := F.2.2.2.1
  have hts := F.2.2.2.2
  have hn4 : 4 ≤ qa_n y := E.2.1.2.2.1
  have hn7 : qa_n y ≤ 7 := E.2.1.2.2.2.1
  have hl : lv_has ls 4 [(0, .ref (qa_a y 22 0)), (1, .int z), (2, .int a), (3, .int b)] := hl
  by_cases g1 : qm_isn (qa_n y) z = true
  · obtain ⟨i, hi, rfl⟩ := qm_wi_n (by omega) (by omega) g1
    have hl : lv_has ls 4 [(0, .ref (qa_a y 22 0)), (1, .int (nI i)), (2, .int a), (3, .int b)] := hl
    refine lv_aload_n hx hb d_MD_clock_0 rfl (lv_at hl 0 rfl) ?_
    refine lv_iload_n hx hb d_MD_clock_1 rfl (lv_at hl 1 rfl) ?_
    refine qa_pV (k := 22) (i := 0) (As := [.int (nI i)]) E hC (c_MD_node l y v (nI i)) Nat.one_pos rfl rfl k_MD_83 (qa_fitR (by decide) (by decide)) rfl hl.1 rfl (Nat.le_of_ble_eq_true rfl) d_MD_clock_2 ?_
    refine lv_if_eq hx hb d_MD_clock_5 rfl (fun h9 => absurd h9 (qb_nz g1)) (fun _ => ?_)
    refine lv_iload_n hx hb d_MD_clock_8 rfl (lv_at hl 2 rfl) ?_
    refine lv_sipush (v := -500) hx hb d_MD_clock_9 (by decide) ?_
    refine lv_icmp_lt hx hb d_MD_clock_12 rfl (fun h12 => ?_) (fun h12 => ?_)
    · refine lv_iconst (v := 0) hx hb d_MD_clock_33 (by decide) ?_
      exact qa_mzret E hC hr hlocks ⟨qb_0 (by rw [show qm_wi a _ _ = false from qm_wi_f1 (qm_nle h12)]; simp), by rw [if_neg (by rw [show qm_wi a _ _ = false from qm_wi_f1 (qm_nle h12)]; simp)]; exact hR, fun _ _ _ _ => rfl⟩ rfl d_MD_clock_34
    · refine lv_iload_n hx hb d_MD_clock_15 rfl (lv_at hl 2 rfl) ?_
      refine lv_sipush (v := 500) hx hb d_MD_clock_16 (by decide) ?_
      refine lv_icmp_gt hx hb d_MD_clock_19 rfl (fun h19 => ?_) (fun h19 => ?_)
      · refine lv_iconst (v := 0) hx hb d_MD_clock_33 (by decide) ?_
        exact qa_mzret E hC hr hlocks ⟨qb_0 (by rw [show qm_wi a _ _ = false from qm_wi_f2 (qm_nle h19)]; simp), by rw [if_neg (by rw [show qm_wi a _ _ = false from qm_wi_f2 (qm_nle h19)]; simp)]; exact hR, fun _ _ _ _ => rfl⟩ rfl d_MD_clock_34
      · refine lv_iload_n hx hb d_MD_clock_22 rfl (lv_at hl 3 rfl) ?_
        refine lv_bipush (v := -2) hx hb d_MD_clock_23 (by decide) ?_
        refine lv_icmp_lt hx hb d_MD_clock_25 rfl (fun h25 => ?_) (fun h25 => ?_)
        · refine lv_iconst (v := 0) hx hb d_MD_clock_33 (by decide) ?_
          exact qa_mzret E hC hr hlocks ⟨qb_0 (by rw [show qm_wi b _ _ = false from qm_wi_f1 (qm_nle h25)]; simp), by rw [if_neg (by rw [show qm_wi b _ _ = false from qm_wi_f1 (qm_nle h25)]; simp)]; exact hR, fun _ _ _ _ => rfl⟩ rfl d_MD_clock_34
        · refine lv_iload_n hx hb d_MD_clock_28 rfl (lv_at hl 3 rfl) ?_
          refine lv_iconst (v := 2) hx hb d_MD_clock_29 (by decide) ?_
          refine lv_icmp_le hx hb d_MD_clock_30 rfl (fun h30 => ?_) (fun h30 => ?_)
          · refine lv_aload_n hx hb d_MD_clock_35 rfl (lv_at hl 0 rfl) ?_
            refine qa_get (k := 22) (i := 0) (f := 5) (val := .ref (qa_a y 23 0)) E hC Nat.one_pos rfl rfl (by decide) f_MD_7 rfl rfl d_MD_clock_36 ?_
            refine lv_iload_n hx hb d_MD_clock_39 rfl (lv_at hl 1 rfl) ?_
            refine lv_iload_n hx hb d_MD_clock_40 rfl (lv_at hl 2 rfl) ?_
            refine qa_ist (k := 23) (i := 0) (j := i) E hC Nat.one_pos rfl rfl rfl (show i < 7 by omega) d_MD_clock_41 (fun H locs hC => ?_)
            refine lv_aload_n hx hb d_MD_clock_42 rfl (lv_at hl 0 rfl) ?_
            refine qa_get (k := 22) (i := 0) (f := 6) (val := .ref (qa_a y 24 0)) E hC Nat.one_pos rfl rfl (by decide) f_MD_13 rfl rfl d_MD_clock_43 ?_
            refine lv_iload_n hx hb d_MD_clock_46 rfl (lv_at hl 1 rfl) ?_
            refine lv_iload_n hx hb d_MD_clock_47 rfl (lv_at hl 3 rfl) ?_
            refine qa_ist (k := 24) (i := 0) (j := i) E hC Nat.one_pos rfl rfl rfl (show i < 7 by omega) d_MD_clock_48 (fun H locs hC => ?_)
            refine lv_iconst (v := 1) hx hb d_MD_clock_49 (by decide) ?_
            exact qa_mzret E hC hr hlocks ⟨qb_1 (by rw [g1, qm_wi_t (qm_nlt h12) (qm_nlt h19), qm_wi_t (qm_nlt h25) h30]; rfl), by rw [if_pos (by rw [g1, qm_wi_t (qm_nlt h12) (qm_nlt h19), qm_wi_t (qm_nlt h25) h30]; rfl), qm_ix_n (by omega)]; exact qm_RM_up hn7 (qm_RM_up hn7 hR (qm_mu_2 (k := 23) (c := 6) hi (by omega))) (qm_mu_2 (k := 24) (c := 7) hi (by omega)), fun c b9 f h => by rw [qa_up_k (by omega), qa_up_k (by omega)]⟩ rfl d_MD_clock_50
          · refine lv_iconst (v := 0) hx hb d_MD_clock_33 (by decide) ?_
            exact qa_mzret E hC hr hlocks ⟨qb_0 (by rw [show qm_wi b _ _ = false from qm_wi_f2 h30]; simp), by rw [if_neg (by rw [show qm_wi b _ _ = false from qm_wi_f2 h30]; simp)]; exact hR, fun _ _ _ _ => rfl⟩ rfl d_MD_clock_34
  · have g0 := Bool.eq_false_iff.mpr g1
    refine lv_aload_n hx hb d_MD_clock_0 rfl (lv_at hl 0 rfl) ?_
    refine lv_iload_n hx hb d_MD_clock_1 rfl (lv_at hl 1 rfl) ?_
    refine qa_pV (k := 22) (i := 0) (As := [.int z]) E hC (c_MD_node l y v z) Nat.one_pos rfl rfl k_MD_83 (qa_fitR (by decide) (by decide)) rfl hl.1 rfl (Nat.le_of_ble_eq_true rfl) d_MD_clock_2 ?_
    refine lv_if_eq hx hb d_MD_clock_5 rfl (fun _ => ?_) (fun h9 => absurd (qb_zf g0) h9)
    refine lv_iconst (v := 0) hx hb d_MD_clock_33 (by decide) ?_
    exact qa_mzret E hC hr hlocks ⟨qb_0 (by rw [g0]; simp), by rw [if_neg (by rw [g0]; simp)]; exact hR, fun _ _ _ _ => rfl⟩ rfl d_MD_clock_34

set_option maxHeartbeats 4000000 in
set_option maxRecDepth 100000 in
theorem c_MD_fault (l : Launch) (y : qa_L) (v : qa_M) (z a b : Int32) (w : qa_M) (hR : qm_RM (qa_n y) w v) : qa_Mi l y_MD_fault b_MD_fault 4 (some .boolean) 1 [.ref (qa_a y 22 0), .int z, .int a, .int b] y v (fun r u => r = qb (qm_isn (qa_n y) z && (qm_wi a 0 5 && qm_wi b (-5000) 5000)) ∧ qm_RM (qa_n y) (if (qm_isn (qa_n y) z && (qm_wi a 0 5 && qm_wi b (-5000) 5000)) = true then qa_up (qa_up w 2 (qm_ix z) 9 a) 2 (qm_ix z) 10 b else w) u ∧ (∀ c b f, c < 22 → u c b f = v c b f)) := by
  refine qa_ofMi (plainFor_of_name (by decide)) (Nat.le_of_ble_eq_true rfl) ?_
  intro p e s m below meth c ls E hr hlocks hC hl
  have E : qa_E p m c b_MD_fault 4 s _ "VotedFramesModel" y := E
  have F := E.1
  have hx := F.1
  have hb := F.2.1
  have hown : s.vm.findClass "VotedFramesModel" = some m.cls := F.2.2.2.1
  have hts := F.2.2.2.2
  have hn4 : 4 ≤ qa_n y := E.2.1.2.2.1
  have hn7 : qa_n y ≤ 7 := E.2.1.2.2.2.1
  have hl : lv_has ls 4 [(0, .ref (qa_a y 22 0)), (1, .int z), (2, .int a), (3, .int b)] := hl
  by_cases g1 : qm_isn (qa_n y) z = true
  · obtain ⟨i, hi, rfl⟩ := qm_wi_n (by omega) (by omega) g1
    have hl : lv_has ls 4 [(0, .ref (qa_a y 22 0)), (1, .int (nI i)), (2, .int a), (3, .int b)] := hl
    refine lv_aload_n hx hb d_MD_fault_0 rfl (lv_at hl 0 rfl) ?_
    refine lv_iload_n hx hb d_MD_fault_1 rfl (lv_at hl 1 rfl) ?_
    refine qa_pV (k := 22) (i := 0) (As := [.int (nI i)]) E hC (c_MD_node l y v (nI i)) Nat.one_pos rfl rfl k_MD_83 (qa_fitR (by decide) (by decide)) rfl hl.1 rfl (Nat.le_of_ble_eq_true rfl) d_MD_fault_2 ?_
    refine lv_if_eq hx hb d_MD_fault_5 rfl (fun h9 => absurd h9 (qb_nz g1)) (fun _ => ?_)
    refine lv_iload_n hx hb d_MD_fault_8 rfl (lv_at hl 2 rfl) ?_
    refine lv_if_lt hx hb d_MD_fault_9 rfl (fun h9 => ?_) (fun h9 => ?_)
    · refine lv_iconst (v := 0) hx hb d_MD_fault_31 (by decide) ?_
      exact qa_mzret E hC hr hlocks ⟨qb_0 (by rw [show qm_wi a _ _ = false from qm_wi_f1 (qm_nle h9)]; simp), by rw [if_neg (by rw [show qm_wi a _ _ = false from qm_wi_f1 (qm_nle h9)]; simp)]; exact hR, fun _ _ _ _ => rfl⟩ rfl d_MD_fault_32
    · refine lv_iload_n hx hb d_MD_fault_12 rfl (lv_at hl 2 rfl) ?_
      refine lv_iconst (v := 5) hx hb d_MD_fault_13 (by decide) ?_
      refine lv_icmp_gt hx hb d_MD_fault_14 rfl (fun h14 => ?_) (fun h14 => ?_)
      · refine lv_iconst (v := 0) hx hb d_MD_fault_31 (by decide) ?_
        exact qa_mzret E hC hr hlocks ⟨qb_0 (by rw [show qm_wi a _ _ = false from qm_wi_f2 (qm_nle h14)]; simp), by rw [if_neg (by rw [show qm_wi a _ _ = false from qm_wi_f2 (qm_nle h14)]; simp)]; exact hR, fun _ _ _ _ => rfl⟩ rfl d_MD_fault_32
      · refine lv_iload_n hx hb d_MD_fault_17 rfl (lv_at hl 3 rfl) ?_
        refine lv_sipush (v := -5000) hx hb d_MD_fault_18 (by decide) ?_
        refine lv_icmp_lt hx hb d_MD_fault_21 rfl (fun h21 => ?_) (fun h21 => ?_)
        · refine lv_iconst (v := 0) hx hb d_MD_fault_31 (by decide) ?_
          exact qa_mzret E hC hr hlocks ⟨qb_0 (by rw [show qm_wi b _ _ = false from qm_wi_f1 (qm_nle h21)]; simp), by rw [if_neg (by rw [show qm_wi b _ _ = false from qm_wi_f1 (qm_nle h21)]; simp)]; exact hR, fun _ _ _ _ => rfl⟩ rfl d_MD_fault_32
        · refine lv_iload_n hx hb d_MD_fault_24 rfl (lv_at hl 3 rfl) ?_
          refine lv_sipush (v := 5000) hx hb d_MD_fault_25 (by decide) ?_
          refine lv_icmp_le hx hb d_MD_fault_28 rfl (fun h28 => ?_) (fun h28 => ?_)
          · refine lv_aload_n hx hb d_MD_fault_33 rfl (lv_at hl 0 rfl) ?_
            refine qa_get (k := 22) (i := 0) (f := 8) (val := .ref (qa_a y 26 0)) E hC Nat.one_pos rfl rfl (by decide) f_MD_19 rfl rfl d_MD_fault_34 ?_
            refine lv_iload_n hx hb d_MD_fault_37 rfl (lv_at hl 1 rfl) ?_
            refine lv_iload_n hx hb d_MD_fault_38 rfl (lv_at hl 2 rfl) ?_
            refine qa_ist (k := 26) (i := 0) (j := i) E hC Nat.one_pos rfl rfl rfl (show i < 7 by omega) d_MD_fault_39 (fun H locs hC => ?_)
            refine lv_aload_n hx hb d_MD_fault_40 rfl (lv_at hl 0 rfl) ?_
            refine qa_get (k := 22) (i := 0) (f := 9) (val := .ref (qa_a y 27 0)) E hC Nat.one_pos rfl rfl (by decide) f_MD_22 rfl rfl d_MD_fault_41 ?_
            refine lv_iload_n hx hb d_MD_fault_44 rfl (lv_at hl 1 rfl) ?_
            refine lv_iload_n hx hb d_MD_fault_45 rfl (lv_at hl 3 rfl) ?_
            refine qa_ist (k := 27) (i := 0) (j := i) E hC Nat.one_pos rfl rfl rfl (show i < 7 by omega) d_MD_fault_46 (fun H locs hC => ?_)
            refine lv_iconst (v := 1) hx hb d_MD_fault_47 (by decide) ?_
            exact qa_mzret E hC hr hlocks ⟨qb_1 (by rw [g1, qm_wi_t (qm_nlt h9) (qm_nlt h14), qm_wi_t (qm_nlt h21) h28]; rfl), by rw [if_pos (by rw [g1, qm_wi_t (qm_nlt h9) (qm_nlt h14), qm_wi_t (qm_nlt h21) h28]; rfl), qm_ix_n (by omega)]; exact qm_RM_up hn7 (qm_RM_up hn7 hR (qm_mu_2 (k := 26) (c := 9) hi (by omega))) (qm_mu_2 (k := 27) (c := 10) hi (by omega)), fun c b9 f h => by rw [qa_up_k (by omega), qa_up_k (by omega)]⟩ rfl d_MD_fault_48
          · refine lv_iconst (v := 0) hx hb d_MD_fault_31 (by decide) ?_
            exact qa_mzret E hC hr hlocks ⟨qb_0 (by rw [show qm_wi b _ _ = false from qm_wi_f2 h28]; simp), by rw [if_neg (by rw [show qm_wi b _ _ = false from qm_wi_f2 h28]; simp)]; exact hR, fun _ _ _ _ => rfl⟩ rfl d_MD_fault_32
  · have g0 := Bool.eq_false_iff.mpr g1
    refine lv_aload_n hx hb d_MD_fault_0 rfl (lv_at hl 0 rfl) ?_
    refine lv_iload_n hx hb d_MD_fault_1 rfl (lv_at hl 1 rfl) ?_
    refine qa_pV (k := 22) (i := 0) (As := [.int z]) E hC (c_MD_node l y v z) Nat.one_pos rfl rfl k_MD_83 (qa_fitR (by decide) (by decide)) rfl hl.1 rfl (Nat.le_of_ble_eq_true rfl) d_MD_fault_2 ?_
    refine lv_if_eq hx hb d_MD_fault_5 rfl (fun _ => ?_) (fun h9 => absurd (qb_zf g0) h9)
    refine lv_iconst (v := 0) hx hb d_MD_fault_31 (by decide) ?_
    exact qa_mzret E hC hr hlocks ⟨qb_0 (by rw [g0]; simp), by rw [if_neg (by rw [g0]; simp)]; exact hR, fun _ _ _ _ => rfl⟩ rfl d_MD_fault_32

set_option maxHeartbeats 4000000 in
set_option maxRecDepth 100000 in
theorem c_MD_sensor (l : Launch) (y : qa_L) (v : qa_M) (z a : Int32) (w : qa_M) (hR : qm_RM (qa_n y) w v) : qa_Mi l y_MD_sensor b_MD_sensor 3 (some .boolean) 1 [.ref (qa_a y 22 0), .int z, .int a] y v (fun r u => r = qb (qm_isn (qa_n y) z) ∧ qm_RM (qa_n y) (if (qm_isn (qa_n y) z) = true then qa_up w 2 (qm_ix z) 8 a else w) u ∧ (∀ c b f, c < 22 → u c b f = v c b f)) := by
  refine qa_ofMi (plainFor_of_name (by decide)) (Nat.le_of_ble_eq_true rfl) ?_
  intro p e s m below meth c ls E hr hlocks hC hl
  have E : qa_E p m c b_MD_sensor 3 s _ "VotedFramesModel" y := E
  have F := E.1
  have hx := F.1
  have hb := F.2.1
  have hown : s.vm.findClass "VotedFramesModel" = some m.cls := F.2.2.2.1
  have hts := F.2.2.2.2
  have hn4 : 4 ≤ qa_n y := E.2.1.2.2.1
  have hn7 : qa_n y ≤ 7 := E.2.1.2.2.2.1
  have hl : lv_has ls 3 [(0, .ref (qa_a y 22 0)), (1, .int z), (2, .int a)] := hl
  by_cases g1 : qm_isn (qa_n y) z = true
  · obtain ⟨i, hi, rfl⟩ := qm_wi_n (by omega) (by omega) g1
    have hl : lv_has ls 3 [(0, .ref (qa_a y 22 0)), (1, .int (nI i)), (2, .int a)] := hl
    refine lv_aload_n hx hb d_MD_sensor_0 rfl (lv_at hl 0 rfl) ?_
    refine lv_iload_n hx hb d_MD_sensor_1 rfl (lv_at hl 1 rfl) ?_
    refine qa_pV (k := 22) (i := 0) (As := [.int (nI i)]) E hC (c_MD_node l y v (nI i)) Nat.one_pos rfl rfl k_MD_83 (qa_fitR (by decide) (by decide)) rfl hl.1 rfl (Nat.le_of_ble_eq_true rfl) d_MD_sensor_2 ?_
    refine lv_if_ne hx hb d_MD_sensor_5 rfl (fun _ => ?_) (fun h9 => absurd h9 (qb_nz g1))
    refine lv_aload_n hx hb d_MD_sensor_10 rfl (lv_at hl 0 rfl) ?_
    refine qa_get (k := 22) (i := 0) (f := 7) (val := .ref (qa_a y 25 0)) E hC Nat.one_pos rfl rfl (by decide) f_MD_16 rfl rfl d_MD_sensor_11 ?_
    refine lv_iload_n hx hb d_MD_sensor_14 rfl (lv_at hl 1 rfl) ?_
    refine lv_iload_n hx hb d_MD_sensor_15 rfl (lv_at hl 2 rfl) ?_
    refine qa_ist (k := 25) (i := 0) (j := i) E hC Nat.one_pos rfl rfl rfl (show i < 7 by omega) d_MD_sensor_16 (fun H locs hC => ?_)
    refine lv_iconst (v := 1) hx hb d_MD_sensor_17 (by decide) ?_
    exact qa_mzret E hC hr hlocks ⟨qb_1 g1, by rw [if_pos g1, qm_ix_n (by omega)]; exact qm_RM_up hn7 hR (qm_mu_2 (k := 25) (c := 8) hi (by omega)), fun c b9 f h => by rw [qa_up_k (by omega)]⟩ rfl d_MD_sensor_18
  · have g0 := Bool.eq_false_iff.mpr g1
    refine lv_aload_n hx hb d_MD_sensor_0 rfl (lv_at hl 0 rfl) ?_
    refine lv_iload_n hx hb d_MD_sensor_1 rfl (lv_at hl 1 rfl) ?_
    refine qa_pV (k := 22) (i := 0) (As := [.int z]) E hC (c_MD_node l y v z) Nat.one_pos rfl rfl k_MD_83 (qa_fitR (by decide) (by decide)) rfl hl.1 rfl (Nat.le_of_ble_eq_true rfl) d_MD_sensor_2 ?_
    refine lv_if_ne hx hb d_MD_sensor_5 rfl (fun h9 => absurd (qb_zf g0) h9) (fun _ => ?_)
    refine lv_iconst (v := 0) hx hb d_MD_sensor_8 (by decide) ?_
    exact qa_mzret E hC hr hlocks ⟨qb_0 g0, by rw [if_neg g1]; exact hR, fun _ _ _ _ => rfl⟩ rfl d_MD_sensor_9

set_option maxHeartbeats 4000000 in
set_option maxRecDepth 100000 in
theorem c_MD_link (l : Launch) (y : qa_L) (v : qa_M) (z z2 a b : Int32) (w : qa_M) (hR : qm_RM (qa_n y) w v) : qa_Mi l y_MD_link b_MD_link 5 (some .boolean) 1 [.ref (qa_a y 22 0), .int z, .int z2, .int a, .int b] y v (fun r u => r = qb ((qm_isn (qa_n y) z && (qm_isn (qa_n y) z2 && !decide (z = z2))) && (qm_wi a 0 20 && qm_wi b (-3) 3)) ∧ qm_RM (qa_n y) (if ((qm_isn (qa_n y) z && (qm_isn (qa_n y) z2 && !decide (z = z2))) && (qm_wi a 0 20 && qm_wi b (-3) 3)) = true then qa_up (qa_up w 3 (qm_ix z2) (qm_ix z) a) 4 (qm_ix z2) (qm_ix z) b else w) u ∧ (∀ c b f, c < 22 → u c b f = v c b f)) := by
  refine qa_ofMi (plainFor_of_name (by decide)) (Nat.le_of_ble_eq_true rfl) ?_
  intro p e s m below meth c ls E hr hlocks hC hl
  have E : qa_E p m c b_MD_link 5 s _ "VotedFramesModel" y := E
  have F := E.1
  have hx := F.1
  have hb := F.2.1
  have hown : s.vm.findClass "VotedFramesModel" = some m.cls := F.2.2.2.1
  have hts := F.2.2.2.2
  have hn4 : 4 ≤ qa_n y := E.2.1.2.2.1
  have hn7 : qa_n y ≤ 7 := E.2.1.2.2.2.1
  have hl : lv_has ls 5 [(0, .ref (qa_a y 22 0)), (1, .int z), (2, .int z2), (3, .int a), (4, .int b)] := hl
  by_cases g2 : qm_isn (qa_n y) z2 = true
  · obtain ⟨i, hi, rfl⟩ := qm_wi_n (by omega) (by omega) g2
    by_cases g1 : qm_isn (qa_n y) z = true
    · obtain ⟨j, hj, rfl⟩ := qm_wi_n (by omega) (by omega) g1
      have hl : lv_has ls 5 [(0, .ref (qa_a y 22 0)), (1, .int (nI j)), (2, .int (nI i)), (3, .int a), (4, .int b)] := hl
      refine lv_aload_n hx hb d_MD_link_0 rfl (lv_at hl 0 rfl) ?_
      refine lv_iload_n hx hb d_MD_link_1 rfl (lv_at hl 2 rfl) ?_
      refine qa_pV (k := 22) (i := 0) (As := [.int (nI i)]) E hC (c_MD_node l y v (nI i)) Nat.one_pos rfl rfl k_MD_83 (qa_fitR (by decide) (by decide)) rfl hl.1 rfl (Nat.le_of_ble_eq_true rfl) d_MD_link_2 ?_
      refine lv_if_eq hx hb d_MD_link_5 rfl (fun h9 => absurd h9 (qb_nz g2)) (fun _ => ?_)
      refine lv_aload_n hx hb d_MD_link_8 rfl (lv_at hl 0 rfl) ?_
      refine lv_iload_n hx hb d_MD_link_9 rfl (lv_at hl 1 rfl) ?_
      refine qa_pV (k := 22) (i := 0) (As := [.int (nI j)]) E hC (c_MD_node l y v (nI j)) Nat.one_pos rfl rfl k_MD_83 (qa_fitR (by decide) (by decide)) rfl hl.1 rfl (Nat.le_of_ble_eq_true rfl) d_MD_link_10 ?_
      refine lv_if_eq hx hb d_MD_link_13 rfl (fun h9 => absurd h9 (qb_nz g1)) (fun _ => ?_)
      refine lv_iload_n hx hb d_MD_link_16 rfl (lv_at hl 2 rfl) ?_
      refine lv_iload_n hx hb d_MD_link_17 rfl (lv_at hl 1 rfl) ?_
      refine lv_icmp_eq hx hb d_MD_link_18 rfl (fun h18 => ?_) (fun h18 => ?_)
      · refine lv_iconst (v := 0) hx hb d_MD_link_44 (by decide) ?_
        exact qa_mzret E hC hr hlocks ⟨qb_0 (by rw [decide_eq_true h18.symm]; simp), by rw [if_neg (by rw [decide_eq_true h18.symm]; simp)]; exact hR, fun _ _ _ _ => rfl⟩ rfl d_MD_link_45
      · refine lv_iload_n hx hb d_MD_link_21 rfl (lv_at hl 3 rfl) ?_
        refine lv_if_lt hx hb d_MD_link_22 rfl (fun h22 => ?_) (fun h22 => ?_)
        · refine lv_iconst (v := 0) hx hb d_MD_link_44 (by decide) ?_
          exact qa_mzret E hC hr hlocks ⟨qb_0 (by rw [show qm_wi a _ _ = false from qm_wi_f1 (qm_nle h22)]; simp), by rw [if_neg (by rw [show qm_wi a _ _ = false from qm_wi_f1 (qm_nle h22)]; simp)]; exact hR, fun _ _ _ _ => rfl⟩ rfl d_MD_link_45
        · refine lv_iload_n hx hb d_MD_link_25 rfl (lv_at hl 3 rfl) ?_
          refine lv_bipush (v := 20) hx hb d_MD_link_26 (by decide) ?_
          refine lv_icmp_gt hx hb d_MD_link_28 rfl (fun h28 => ?_) (fun h28 => ?_)
          · refine lv_iconst (v := 0) hx hb d_MD_link_44 (by decide) ?_
            exact qa_mzret E hC hr hlocks ⟨qb_0 (by rw [show qm_wi a _ _ = false from qm_wi_f2 (qm_nle h28)]; simp), by rw [if_neg (by rw [show qm_wi a _ _ = false from qm_wi_f2 (qm_nle h28)]; simp)]; exact hR, fun _ _ _ _ => rfl⟩ rfl d_MD_link_45
          · refine lv_iload hx hb d_MD_link_31 (lv_at hl 4 rfl) ?_
            refine lv_bipush (v := -3) hx hb d_MD_link_33 (by decide) ?_
            refine lv_icmp_lt hx hb d_MD_link_35 rfl (fun h35 => ?_) (fun h35 => ?_)
            · refine lv_iconst (v := 0) hx hb d_MD_link_44 (by decide) ?_
              exact qa_mzret E hC hr hlocks ⟨qb_0 (by rw [show qm_wi b _ _ = false from qm_wi_f1 (qm_nle h35)]; simp), by rw [if_neg (by rw [show qm_wi b _ _ = false from qm_wi_f1 (qm_nle h35)]; simp)]; exact hR, fun _ _ _ _ => rfl⟩ rfl d_MD_link_45
            · refine lv_iload hx hb d_MD_link_38 (lv_at hl 4 rfl) ?_
              refine lv_iconst (v := 3) hx hb d_MD_link_40 (by decide) ?_
              refine lv_icmp_le hx hb d_MD_link_41 rfl (fun h41 => ?_) (fun h41 => ?_)
              · refine lv_aload_n hx hb d_MD_link_46 rfl (lv_at hl 0 rfl) ?_
                refine qa_get (k := 22) (i := 0) (f := 17) (val := .ref (qa_a y 35 0)) E hC Nat.one_pos rfl rfl (by decide) f_MD_46 rfl rfl d_MD_link_47 ?_
                refine lv_bipush (v := 7) hx hb d_MD_link_50 (by decide) ?_
                refine lv_iload_n hx hb d_MD_link_52 rfl (lv_at hl 1 rfl) ?_
                refine lv_imul hx hb d_MD_link_53 ?_
                refine lv_iload_n hx hb d_MD_link_54 rfl (lv_at hl 2 rfl) ?_
                refine lv_iadd hx hb d_MD_link_55 ?_
                refine lv_iload_n hx hb d_MD_link_56 rfl (lv_at hl 3 rfl) ?_
                refine qa_ist (k := 35) (i := 0) (j := ((7 * j) + i)) E hC Nat.one_pos rfl rfl (qn_add (qn_mul rfl rfl) rfl) (show (7 * j) + i < 49 by omega) d_MD_link_57 (fun H locs hC => ?_)
                refine lv_aload_n hx hb d_MD_link_58 rfl (lv_at hl 0 rfl) ?_
                refine qa_get (k := 22) (i := 0) (f := 18) (val := .ref (qa_a y 36 0)) E hC Nat.one_pos rfl rfl (by decide) f_MD_49 rfl rfl d_MD_link_59 ?_
                refine lv_bipush (v := 7) hx hb d_MD_link_62 (by decide) ?_
                refine lv_iload_n hx hb d_MD_link_64 rfl (lv_at hl 1 rfl) ?_
                refine lv_imul hx hb d_MD_link_65 ?_
                refine lv_iload_n hx hb d_MD_link_66 rfl (lv_at hl 2 rfl) ?_
                refine lv_iadd hx hb d_MD_link_67 ?_
                refine lv_iload hx hb d_MD_link_68 (lv_at hl 4 rfl) ?_
                refine qa_ist (k := 36) (i := 0) (j := ((7 * j) + i)) E hC Nat.one_pos rfl rfl (qn_add (qn_mul rfl rfl) rfl) (show (7 * j) + i < 49 by omega) d_MD_link_70 (fun H locs hC => ?_)
                refine lv_iconst (v := 1) hx hb d_MD_link_71 (by decide) ?_
                exact qa_mzret E hC hr hlocks ⟨qb_1 (by rw [g1, g2, qm_wi_t (qm_nlt h22) (qm_nlt h28), qm_wi_t (qm_nlt h35) h41, decide_eq_false (fun z => h18 z.symm)]; rfl), by rw [if_pos (by rw [g1, g2, qm_wi_t (qm_nlt h22) (qm_nlt h28), qm_wi_t (qm_nlt h35) h41, decide_eq_false (fun z => h18 z.symm)]; rfl), qm_ix_n (by omega), qm_ix_n (by omega)]; exact qm_RM_up hn7 (qm_RM_up hn7 hR (qm_mu_d hi hj)) (qm_mu_e hi hj), fun c b9 f h => by rw [qa_up_k (by omega), qa_up_k (by omega)]⟩ rfl d_MD_link_72
              · refine lv_iconst (v := 0) hx hb d_MD_link_44 (by decide) ?_
                exact qa_mzret E hC hr hlocks ⟨qb_0 (by rw [show qm_wi b _ _ = false from qm_wi_f2 h41]; simp), by rw [if_neg (by rw [show qm_wi b _ _ = false from qm_wi_f2 h41]; simp)]; exact hR, fun _ _ _ _ => rfl⟩ rfl d_MD_link_45
    · have g0 := Bool.eq_false_iff.mpr g1
      have hl : lv_has ls 5 [(0, .ref (qa_a y 22 0)), (1, .int z), (2, .int (nI i)), (3, .int a), (4, .int b)] := hl
      refine lv_aload_n hx hb d_MD_link_0 rfl (lv_at hl 0 rfl) ?_
      refine lv_iload_n hx hb d_MD_link_1 rfl (lv_at hl 2 rfl) ?_
      refine qa_pV (k := 22) (i := 0) (As := [.int (nI i)]) E hC (c_MD_node l y v (nI i)) Nat.one_pos rfl rfl k_MD_83 (qa_fitR (by decide) (by decide)) rfl hl.1 rfl (Nat.le_of_ble_eq_true rfl) d_MD_link_2 ?_
      refine lv_if_eq hx hb d_MD_link_5 rfl (fun h9 => absurd h9 (qb_nz g2)) (fun _ => ?_)
      refine lv_aload_n hx hb d_MD_link_8 rfl (lv_at hl 0 rfl) ?_
      refine lv_iload_n hx hb d_MD_link_9 rfl (lv_at hl 1 rfl) ?_
      refine qa_pV (k := 22) (i := 0) (As := [.int z]) E hC (c_MD_node l y v z) Nat.one_pos rfl rfl k_MD_83 (qa_fitR (by decide) (by decide)) rfl hl.1 rfl (Nat.le_of_ble_eq_true rfl) d_MD_link_10 ?_
      refine lv_if_eq hx hb d_MD_link_13 rfl (fun _ => ?_) (fun h9 => absurd (qb_zf g0) h9)
      refine lv_iconst (v := 0) hx hb d_MD_link_44 (by decide) ?_
      exact qa_mzret E hC hr hlocks ⟨qb_0 (by rw [g0]; simp), by rw [if_neg (by rw [g0]; simp)]; exact hR, fun _ _ _ _ => rfl⟩ rfl d_MD_link_45
  · have g0 := Bool.eq_false_iff.mpr g2
    refine lv_aload_n hx hb d_MD_link_0 rfl (lv_at hl 0 rfl) ?_
    refine lv_iload_n hx hb d_MD_link_1 rfl (lv_at hl 2 rfl) ?_
    refine qa_pV (k := 22) (i := 0) (As := [.int z2]) E hC (c_MD_node l y v z2) Nat.one_pos rfl rfl k_MD_83 (qa_fitR (by decide) (by decide)) rfl hl.1 rfl (Nat.le_of_ble_eq_true rfl) d_MD_link_2 ?_
    refine lv_if_eq hx hb d_MD_link_5 rfl (fun _ => ?_) (fun h9 => absurd (qb_zf g0) h9)
    refine lv_iconst (v := 0) hx hb d_MD_link_44 (by decide) ?_
    exact qa_mzret E hC hr hlocks ⟨qb_0 (by rw [g0]; simp), by rw [if_neg (by rw [g0]; simp)]; exact hR, fun _ _ _ _ => rfl⟩ rfl d_MD_link_45

set_option maxHeartbeats 4000000 in
set_option maxRecDepth 100000 in
theorem c_MD_due (l : Launch) (y : qa_L) (v : qa_M) (z a b : Int32) (w : qa_M) (hR : qm_RM (qa_n y) w v) : qa_Mi l y_MD_due b_MD_due 4 (some .boolean) 1 [.ref (qa_a y 22 0), .int z, .int a, .int b] y v (fun r u => r = qb (qm_wi z 0 3 && (qm_wi a 1 8 && qm_wi b 0 (a - 1))) ∧ qm_RM (qa_n y) (if (qm_wi z 0 3 && (qm_wi a 1 8 && qm_wi b 0 (a - 1))) = true then qa_up (qa_up w 13 (qm_ix z) 3 a) 13 (qm_ix z) 4 b else w) u ∧ (∀ c b f, c < 22 → u c b f = v c b f)) := by
  refine qa_ofMi (plainFor_of_name (by decide)) (Nat.le_of_ble_eq_true rfl) ?_
  intro p e s m below meth c ls E hr hlocks hC hl
  have E : qa_E p m c b_MD_due 4 s _ "VotedFramesModel" y := E
  have F := E.1
  have hx := F.1
  have hb := F.2.1
  have hown : s.vm.findClass "VotedFramesModel" = some m.cls := F.2.2.2.1
  have hts := F.2.2.2.2
  have hn4 : 4 ≤ qa_n y := E.2.1.2.2.1
  have hn7 : qa_n y ≤ 7 := E.2.1.2.2.2.1
  have hl : lv_has ls 4 [(0, .ref (qa_a y 22 0)), (1, .int z), (2, .int a), (3, .int b)] := hl
  by_cases g1 : qm_wi z 0 3 = true
  · obtain ⟨t, ht, rfl⟩ := qm_wi_4 g1
    have hl : lv_has ls 4 [(0, .ref (qa_a y 22 0)), (1, .int (nI t)), (2, .int a), (3, .int b)] := hl
    refine lv_iload_n hx hb d_MD_due_0 rfl (lv_at hl 1 rfl) ?_
    refine qa_pT (As := [.int (nI t)]) F (c_MD_task l (nI t)) k_MD_87 (qa_fitR (by decide) (by decide)) rfl hl.1 rfl (Nat.le_of_ble_eq_true rfl) d_MD_due_1 ?_
    refine lv_if_eq hx hb d_MD_due_4 rfl (fun h9 => absurd h9 (qb_nz g1)) (fun _ => ?_)
    refine lv_iload_n hx hb d_MD_due_7 rfl (lv_at hl 2 rfl) ?_
    refine lv_iconst (v := 1) hx hb d_MD_due_8 (by decide) ?_
    refine lv_icmp_lt hx hb d_MD_due_9 rfl (fun h9 => ?_) (fun h9 => ?_)
    · refine lv_iconst (v := 0) hx hb d_MD_due_27 (by decide) ?_
      exact qa_mzret E hC hr hlocks ⟨qb_0 (by rw [show qm_wi a _ _ = false from qm_wi_f1 (qm_nle h9)]; simp), by rw [if_neg (by rw [show qm_wi a _ _ = false from qm_wi_f1 (qm_nle h9)]; simp)]; exact hR, fun _ _ _ _ => rfl⟩ rfl d_MD_due_28
    · refine lv_iload_n hx hb d_MD_due_12 rfl (lv_at hl 2 rfl) ?_
      refine lv_bipush (v := 8) hx hb d_MD_due_13 (by decide) ?_
      refine lv_icmp_gt hx hb d_MD_due_15 rfl (fun h15 => ?_) (fun h15 => ?_)
      · refine lv_iconst (v := 0) hx hb d_MD_due_27 (by decide) ?_
        exact qa_mzret E hC hr hlocks ⟨qb_0 (by rw [show qm_wi a _ _ = false from qm_wi_f2 (qm_nle h15)]; simp), by rw [if_neg (by rw [show qm_wi a _ _ = false from qm_wi_f2 (qm_nle h15)]; simp)]; exact hR, fun _ _ _ _ => rfl⟩ rfl d_MD_due_28
      · refine lv_iload_n hx hb d_MD_due_18 rfl (lv_at hl 3 rfl) ?_
        refine lv_if_lt hx hb d_MD_due_19 rfl (fun h19 => ?_) (fun h19 => ?_)
        · refine lv_iconst (v := 0) hx hb d_MD_due_27 (by decide) ?_
          exact qa_mzret E hC hr hlocks ⟨qb_0 (by rw [show qm_wi b _ _ = false from qm_wi_f1 (qm_nle h19)]; simp), by rw [if_neg (by rw [show qm_wi b _ _ = false from qm_wi_f1 (qm_nle h19)]; simp)]; exact hR, fun _ _ _ _ => rfl⟩ rfl d_MD_due_28
        · refine lv_iload_n hx hb d_MD_due_22 rfl (lv_at hl 3 rfl) ?_
          refine lv_iload_n hx hb d_MD_due_23 rfl (lv_at hl 2 rfl) ?_
          refine lv_icmp_lt hx hb d_MD_due_24 rfl (fun h24 => ?_) (fun h24 => ?_)
          · refine lv_aload_n hx hb d_MD_due_29 rfl (lv_at hl 0 rfl) ?_
            refine qa_get (k := 22) (i := 0) (f := 22) (val := .ref (qa_a y 40 0)) E hC Nat.one_pos rfl rfl (by decide) f_MD_61 rfl rfl d_MD_due_30 ?_
            refine lv_iload_n hx hb d_MD_due_33 rfl (lv_at hl 1 rfl) ?_
            refine lv_iload_n hx hb d_MD_due_34 rfl (lv_at hl 2 rfl) ?_
            refine qa_ist (k := 40) (i := 0) (j := t) E hC Nat.one_pos rfl rfl rfl ht d_MD_due_35 (fun H locs hC => ?_)
            refine lv_aload_n hx hb d_MD_due_36 rfl (lv_at hl 0 rfl) ?_
            refine qa_get (k := 22) (i := 0) (f := 23) (val := .ref (qa_a y 41 0)) E hC Nat.one_pos rfl rfl (by decide) f_MD_64 rfl rfl d_MD_due_37 ?_
            refine lv_iload_n hx hb d_MD_due_40 rfl (lv_at hl 1 rfl) ?_
            refine lv_iload_n hx hb d_MD_due_41 rfl (lv_at hl 3 rfl) ?_
            refine qa_ist (k := 41) (i := 0) (j := t) E hC Nat.one_pos rfl rfl rfl ht d_MD_due_42 (fun H locs hC => ?_)
            refine lv_iconst (v := 1) hx hb d_MD_due_43 (by decide) ?_
            exact qa_mzret E hC hr hlocks ⟨qb_1 (by rw [g1, qm_wi_t (qm_nlt h9) (qm_nlt h15), qm_wi_t (qm_nlt h19) (qm_lep (qm_nlt h9) (qm_nlt h15) h24)]; rfl), by rw [if_pos (by rw [g1, qm_wi_t (qm_nlt h9) (qm_nlt h15), qm_wi_t (qm_nlt h19) (qm_lep (qm_nlt h9) (qm_nlt h15) h24)]; rfl), qm_ix_n (by omega)]; exact qm_RM_up hn7 (qm_RM_up hn7 hR (qm_mu_13 (k := 40) (c := 3) ht (by omega))) (qm_mu_13 (k := 41) (c := 4) ht (by omega)), fun c b9 f h => by rw [qa_up_k (by omega), qa_up_k (by omega)]⟩ rfl d_MD_due_44
          · refine lv_iconst (v := 0) hx hb d_MD_due_27 (by decide) ?_
            exact qa_mzret E hC hr hlocks ⟨qb_0 (by rw [show qm_wi b _ _ = false from qm_wi_f2 (fun z9 => h24 (qm_ltp (qm_nlt h9) (qm_nlt h15) z9))]; simp), by rw [if_neg (by rw [show qm_wi b _ _ = false from qm_wi_f2 (fun z9 => h24 (qm_ltp (qm_nlt h9) (qm_nlt h15) z9))]; simp)]; exact hR, fun _ _ _ _ => rfl⟩ rfl d_MD_due_28
  · have g0 := Bool.eq_false_iff.mpr g1
    refine lv_iload_n hx hb d_MD_due_0 rfl (lv_at hl 1 rfl) ?_
    refine qa_pT (As := [.int z]) F (c_MD_task l z) k_MD_87 (qa_fitR (by decide) (by decide)) rfl hl.1 rfl (Nat.le_of_ble_eq_true rfl) d_MD_due_1 ?_
    refine lv_if_eq hx hb d_MD_due_4 rfl (fun _ => ?_) (fun h9 => absurd (qb_zf g0) h9)
    refine lv_iconst (v := 0) hx hb d_MD_due_27 (by decide) ?_
    exact qa_mzret E hC hr hlocks ⟨qb_0 (by rw [g0]; simp), by rw [if_neg (by rw [g0]; simp)]; exact hR, fun _ _ _ _ => rfl⟩ rfl d_MD_due_28

set_option maxHeartbeats 4000000 in
set_option maxRecDepth 100000 in
theorem c_MD_clear (l : Launch) (y : qa_L) (v : qa_M) (z : Int32) (w : qa_M) (hR : qm_RM (qa_n y) w v) : qa_Mi l y_MD_clear b_MD_clear 3 (some .int) 1 [.ref (qa_a y 22 0), .int z] y v (fun r u => r = (if qm_wi z 0 3 = true then w 13 (qm_ix z) 2 else -1) ∧ qm_RM (qa_n y) (if qm_wi z 0 3 = true then qa_up (qa_up w 13 (qm_ix z) 2 0) 13 (qm_ix z) 3 0 else w) u ∧ (∀ c b f, c < 22 → u c b f = v c b f)) := by
  refine qa_ofMi (plainFor_of_name (by decide)) (Nat.le_of_ble_eq_true rfl) ?_
  intro p e s m below meth c ls E hr hlocks hC hl
  have E : qa_E p m c b_MD_clear 3 s _ "VotedFramesModel" y := E
  have F := E.1
  have hx := F.1
  have hb := F.2.1
  have hown : s.vm.findClass "VotedFramesModel" = some m.cls := F.2.2.2.1
  have hts := F.2.2.2.2
  have hn4 : 4 ≤ qa_n y := E.2.1.2.2.1
  have hn7 : qa_n y ≤ 7 := E.2.1.2.2.2.1
  have hl : lv_has ls 3 [(0, .ref (qa_a y 22 0)), (1, .int z)] := hl
  by_cases g1 : qm_wi z 0 3 = true
  · obtain ⟨t, ht, rfl⟩ := qm_wi_4 g1
    have hl : lv_has ls 3 [(0, .ref (qa_a y 22 0)), (1, .int (nI t))] := hl
    refine lv_iload_n hx hb d_MD_clear_0 rfl (lv_at hl 1 rfl) ?_
    refine qa_pT (As := [.int (nI t)]) F (c_MD_task l (nI t)) k_MD_87 (qa_fitR (by decide) (by decide)) rfl hl.1 rfl (Nat.le_of_ble_eq_true rfl) d_MD_clear_1 ?_
    refine lv_if_ne hx hb d_MD_clear_4 rfl (fun _ => ?_) (fun h9 => absurd h9 (qb_nz g1))
    refine lv_aload_n hx hb d_MD_clear_9 rfl (lv_at hl 0 rfl) ?_
    refine qa_get (k := 22) (i := 0) (f := 21) (val := .ref (qa_a y 39 0)) E hC Nat.one_pos rfl rfl (by decide) f_MD_58 rfl rfl d_MD_clear_10 ?_
    refine lv_iload_n hx hb d_MD_clear_13 rfl (lv_at hl 1 rfl) ?_
    refine qa_ild (k := 39) (i := 0) (j := t) E hC Nat.one_pos rfl rfl rfl ht d_MD_clear_14 ?_
    refine lv_istore_n hx hb d_MD_clear_15 rfl hl (by decide) rfl (fun ls hl => ?_)
    have hl : lv_has ls 3 [(2, .int (v 39 0 t)), (0, .ref (qa_a y 22 0)), (1, .int (nI t))] := hl
    refine lv_aload_n hx hb d_MD_clear_16 rfl (lv_at hl 1 rfl) ?_
    refine qa_get (k := 22) (i := 0) (f := 21) (val := .ref (qa_a y 39 0)) E hC Nat.one_pos rfl rfl (by decide) f_MD_58 rfl rfl d_MD_clear_17 ?_
    refine lv_iload_n hx hb d_MD_clear_20 rfl (lv_at hl 2 rfl) ?_
    refine lv_iconst (v := 0) hx hb d_MD_clear_21 (by decide) ?_
    refine qa_ist (k := 39) (i := 0) (j := t) E hC Nat.one_pos rfl rfl rfl ht d_MD_clear_22 (fun H locs hC => ?_)
    refine lv_aload_n hx hb d_MD_clear_23 rfl (lv_at hl 1 rfl) ?_
    refine qa_get (k := 22) (i := 0) (f := 22) (val := .ref (qa_a y 40 0)) E hC Nat.one_pos rfl rfl (by decide) f_MD_61 rfl rfl d_MD_clear_24 ?_
    refine lv_iload_n hx hb d_MD_clear_27 rfl (lv_at hl 2 rfl) ?_
    refine lv_iconst (v := 0) hx hb d_MD_clear_28 (by decide) ?_
    refine qa_ist (k := 40) (i := 0) (j := t) E hC Nat.one_pos rfl rfl rfl ht d_MD_clear_29 (fun H locs hC => ?_)
    refine lv_iload_n hx hb d_MD_clear_30 rfl (lv_at hl 0 rfl) ?_
    exact qa_mret E hC hr hlocks ⟨by rw [if_pos g1, qm_ix_n (by omega)]; exact qr_13 hR ht (by omega), by rw [if_pos g1, qm_ix_n (by omega)]; exact qm_RM_up hn7 (qm_RM_up hn7 hR (qm_mu_13 (k := 39) (c := 2) ht (by omega))) (qm_mu_13 (k := 40) (c := 3) ht (by omega)), fun c b9 f h => by rw [qa_up_k (by omega), qa_up_k (by omega)]⟩ d_MD_clear_31
  · refine lv_iload_n hx hb d_MD_clear_0 rfl (lv_at hl 1 rfl) ?_
    refine qa_pT (As := [.int z]) F (c_MD_task l z) k_MD_87 (qa_fitR (by decide) (by decide)) rfl hl.1 rfl (Nat.le_of_ble_eq_true rfl) d_MD_clear_1 ?_
    refine lv_if_ne hx hb d_MD_clear_4 rfl (fun h9 => absurd (qb_zf (Bool.eq_false_iff.mpr g1)) h9) (fun _ => ?_)
    refine lv_iconst (v := -1) hx hb d_MD_clear_7 (by decide) ?_
    exact qa_mret E hC hr hlocks ⟨by rw [if_neg g1], by rw [if_neg g1]; exact hR, fun _ _ _ _ => rfl⟩ d_MD_clear_8
