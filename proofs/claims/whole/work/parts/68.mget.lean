set_option maxHeartbeats 4000000 in
set_option maxRecDepth 100000 in
theorem c_MD_frame (l : Launch) (y : qa_L) (v : qa_M) (w : qa_M) (hR : qm_RM (qa_n y) w v) : qa_Pu l y_MD_frame b_MD_frame 1 (some .int) 0 [.ref (qa_a y 22 0)] (qa_W y v) (w 0 0 11) := by
  refine qa_ofPu (plainFor_of_name (by decide)) (Nat.le_of_ble_eq_true rfl) ?_
  intro p e s m below meth c ls F hr hlocks hW hl
  have E : qa_E p m c b_MD_frame 1 s _ "VotedFramesModel" y := ⟨F, hW.2⟩
  have hC : qa_C y v s s.heap [] := ⟨hW.1, va_S.rf⟩
  have hx := F.1
  have hb := F.2.1
  have hown : s.vm.findClass "VotedFramesModel" = some m.cls := F.2.2.2.1
  have hts := F.2.2.2.2
  have hn4 : 4 ≤ qa_n y := E.2.1.2.2.1
  have hn7 : qa_n y ≤ 7 := E.2.1.2.2.2.1
  have hl : lv_has ls 1 [(0, .ref (qa_a y 22 0))] := hl
  refine lv_aload_n hx hb d_MD_frame_0 rfl (lv_at hl 0 rfl) ?_
  refine qa_get (k := 22) (i := 0) (f := 3) (val := .int (v 22 0 3)) E hC Nat.one_pos rfl rfl (by decide) f_MD_94 rfl rfl d_MD_frame_1 ?_
  exact qa_iret hx hb hr hlocks (qr_frm hR) d_MD_frame_4

set_option maxHeartbeats 4000000 in
set_option maxRecDepth 100000 in
theorem c_MD_reading (l : Launch) (y : qa_L) (v : qa_M) (z : Int32) (w : qa_M) (hR : qm_RM (qa_n y) w v) : qa_Pu l y_MD_reading b_MD_reading 2 (some .int) 1 [.ref (qa_a y 22 0), .int z] (qa_W y v) (if qm_isn (qa_n y) z = true then w 2 (qm_ix z) 6 else 0) := by
  refine qa_ofPu (plainFor_of_name (by decide)) (Nat.le_of_ble_eq_true rfl) ?_
  intro p e s m below meth c ls F hr hlocks hW hl
  have E : qa_E p m c b_MD_reading 2 s _ "VotedFramesModel" y := ⟨F, hW.2⟩
  have hC : qa_C y v s s.heap [] := ⟨hW.1, va_S.rf⟩
  have hx := F.1
  have hb := F.2.1
  have hown : s.vm.findClass "VotedFramesModel" = some m.cls := F.2.2.2.1
  have hts := F.2.2.2.2
  have hn4 : 4 ≤ qa_n y := E.2.1.2.2.1
  have hn7 : qa_n y ≤ 7 := E.2.1.2.2.2.1
  have hl : lv_has ls 2 [(0, .ref (qa_a y 22 0)), (1, .int z)] := hl
  by_cases g1 : qm_isn (qa_n y) z = true
  · obtain ⟨i, hi, rfl⟩ := qm_wi_n (by omega) (by omega) g1
    have hl : lv_has ls 2 [(0, .ref (qa_a y 22 0)), (1, .int (nI i))] := hl
    refine lv_aload_n hx hb d_MD_reading_0 rfl (lv_at hl 0 rfl) ?_
    refine lv_iload_n hx hb d_MD_reading_1 rfl (lv_at hl 1 rfl) ?_
    refine qa_pV (k := 22) (i := 0) (As := [.int (nI i)]) E hC (c_MD_node l y v (nI i)) Nat.one_pos rfl rfl k_MD_83 (qa_fitR (by decide) (by decide)) rfl hl.1 rfl (Nat.le_of_ble_eq_true rfl) d_MD_reading_2 ?_
    refine lv_if_eq hx hb d_MD_reading_5 rfl (fun h9 => absurd h9 (qb_nz g1)) (fun _ => ?_)
    refine lv_aload_n hx hb d_MD_reading_8 rfl (lv_at hl 0 rfl) ?_
    refine qa_get (k := 22) (i := 0) (f := 5) (val := .ref (qa_a y 23 0)) E hC Nat.one_pos rfl rfl (by decide) f_MD_7 rfl rfl d_MD_reading_9 ?_
    refine lv_iload_n hx hb d_MD_reading_12 rfl (lv_at hl 1 rfl) ?_
    refine qa_ild (k := 23) (i := 0) (j := i) E hC Nat.one_pos rfl rfl rfl (show i < 7 by omega) d_MD_reading_13 ?_
    refine lv_goto hx hb d_MD_reading_14 rfl ?_
    exact qa_iret hx hb hr hlocks (by rw [if_pos g1, qm_ix_n (by omega)]; exact qr_clk hR hi) d_MD_reading_18
  · refine lv_aload_n hx hb d_MD_reading_0 rfl (lv_at hl 0 rfl) ?_
    refine lv_iload_n hx hb d_MD_reading_1 rfl (lv_at hl 1 rfl) ?_
    refine qa_pV (k := 22) (i := 0) (As := [.int z]) E hC (c_MD_node l y v z) Nat.one_pos rfl rfl k_MD_83 (qa_fitR (by decide) (by decide)) rfl hl.1 rfl (Nat.le_of_ble_eq_true rfl) d_MD_reading_2 ?_
    refine lv_if_eq hx hb d_MD_reading_5 rfl (fun _ => ?_) (fun h9 => absurd (qb_zf (Bool.eq_false_iff.mpr g1)) h9)
    refine lv_iconst (v := 0) hx hb d_MD_reading_17 (by decide) ?_
    exact qa_iret hx hb hr hlocks (by rw [if_neg g1]) d_MD_reading_18

set_option maxHeartbeats 4000000 in
set_option maxRecDepth 100000 in
theorem c_MD_correction (l : Launch) (y : qa_L) (v : qa_M) (z : Int32) (w : qa_M) (hR : qm_RM (qa_n y) w v) : qa_Pu l y_MD_correction b_MD_correction 2 (some .int) 1 [.ref (qa_a y 22 0), .int z] (qa_W y v) (if qm_isn (qa_n y) z = true then w 2 (qm_ix z) 14 else 0) := by
  refine qa_ofPu (plainFor_of_name (by decide)) (Nat.le_of_ble_eq_true rfl) ?_
  intro p e s m below meth c ls F hr hlocks hW hl
  have E : qa_E p m c b_MD_correction 2 s _ "VotedFramesModel" y := ⟨F, hW.2⟩
  have hC : qa_C y v s s.heap [] := ⟨hW.1, va_S.rf⟩
  have hx := F.1
  have hb := F.2.1
  have hown : s.vm.findClass "VotedFramesModel" = some m.cls := F.2.2.2.1
  have hts := F.2.2.2.2
  have hn4 : 4 ≤ qa_n y := E.2.1.2.2.1
  have hn7 : qa_n y ≤ 7 := E.2.1.2.2.2.1
  have hl : lv_has ls 2 [(0, .ref (qa_a y 22 0)), (1, .int z)] := hl
  by_cases g1 : qm_isn (qa_n y) z = true
  · obtain ⟨i, hi, rfl⟩ := qm_wi_n (by omega) (by omega) g1
    have hl : lv_has ls 2 [(0, .ref (qa_a y 22 0)), (1, .int (nI i))] := hl
    refine lv_aload_n hx hb d_MD_correction_0 rfl (lv_at hl 0 rfl) ?_
    refine lv_iload_n hx hb d_MD_correction_1 rfl (lv_at hl 1 rfl) ?_
    refine qa_pV (k := 22) (i := 0) (As := [.int (nI i)]) E hC (c_MD_node l y v (nI i)) Nat.one_pos rfl rfl k_MD_83 (qa_fitR (by decide) (by decide)) rfl hl.1 rfl (Nat.le_of_ble_eq_true rfl) d_MD_correction_2 ?_
    refine lv_if_eq hx hb d_MD_correction_5 rfl (fun h9 => absurd h9 (qb_nz g1)) (fun _ => ?_)
    refine lv_aload_n hx hb d_MD_correction_8 rfl (lv_at hl 0 rfl) ?_
    refine qa_get (k := 22) (i := 0) (f := 12) (val := .ref (qa_a y 30 0)) E hC Nat.one_pos rfl rfl (by decide) f_MD_31 rfl rfl d_MD_correction_9 ?_
    refine lv_iload_n hx hb d_MD_correction_12 rfl (lv_at hl 1 rfl) ?_
    refine qa_ild (k := 30) (i := 0) (j := i) E hC Nat.one_pos rfl rfl rfl (show i < 7 by omega) d_MD_correction_13 ?_
    refine lv_goto hx hb d_MD_correction_14 rfl ?_
    exact qa_iret hx hb hr hlocks (by rw [if_pos g1, qm_ix_n (by omega)]; exact qr_shf hR hi) d_MD_correction_18
  · refine lv_aload_n hx hb d_MD_correction_0 rfl (lv_at hl 0 rfl) ?_
    refine lv_iload_n hx hb d_MD_correction_1 rfl (lv_at hl 1 rfl) ?_
    refine qa_pV (k := 22) (i := 0) (As := [.int z]) E hC (c_MD_node l y v z) Nat.one_pos rfl rfl k_MD_83 (qa_fitR (by decide) (by decide)) rfl hl.1 rfl (Nat.le_of_ble_eq_true rfl) d_MD_correction_2 ?_
    refine lv_if_eq hx hb d_MD_correction_5 rfl (fun _ => ?_) (fun h9 => absurd (qb_zf (Bool.eq_false_iff.mpr g1)) h9)
    refine lv_iconst (v := 0) hx hb d_MD_correction_17 (by decide) ?_
    exact qa_iret hx hb hr hlocks (by rw [if_neg g1]) d_MD_correction_18

set_option maxHeartbeats 4000000 in
set_option maxRecDepth 100000 in
theorem c_MD_members (l : Launch) (y : qa_L) (v : qa_M) (z : Int32) (w : qa_M) (hR : qm_RM (qa_n y) w v) : qa_Pu l y_MD_members b_MD_members 2 (some .int) 1 [.ref (qa_a y 22 0), .int z] (qa_W y v) (if qm_isn (qa_n y) z = true then w 2 (qm_ix z) 11 else 0) := by
  refine qa_ofPu (plainFor_of_name (by decide)) (Nat.le_of_ble_eq_true rfl) ?_
  intro p e s m below meth c ls F hr hlocks hW hl
  have E : qa_E p m c b_MD_members 2 s _ "VotedFramesModel" y := ⟨F, hW.2⟩
  have hC : qa_C y v s s.heap [] := ⟨hW.1, va_S.rf⟩
  have hx := F.1
  have hb := F.2.1
  have hown : s.vm.findClass "VotedFramesModel" = some m.cls := F.2.2.2.1
  have hts := F.2.2.2.2
  have hn4 : 4 ≤ qa_n y := E.2.1.2.2.1
  have hn7 : qa_n y ≤ 7 := E.2.1.2.2.2.1
  have hl : lv_has ls 2 [(0, .ref (qa_a y 22 0)), (1, .int z)] := hl
  by_cases g1 : qm_isn (qa_n y) z = true
  · obtain ⟨i, hi, rfl⟩ := qm_wi_n (by omega) (by omega) g1
    have hl : lv_has ls 2 [(0, .ref (qa_a y 22 0)), (1, .int (nI i))] := hl
    refine lv_aload_n hx hb d_MD_members_0 rfl (lv_at hl 0 rfl) ?_
    refine lv_iload_n hx hb d_MD_members_1 rfl (lv_at hl 1 rfl) ?_
    refine qa_pV (k := 22) (i := 0) (As := [.int (nI i)]) E hC (c_MD_node l y v (nI i)) Nat.one_pos rfl rfl k_MD_83 (qa_fitR (by decide) (by decide)) rfl hl.1 rfl (Nat.le_of_ble_eq_true rfl) d_MD_members_2 ?_
    refine lv_if_eq hx hb d_MD_members_5 rfl (fun h9 => absurd h9 (qb_nz g1)) (fun _ => ?_)
    refine lv_aload_n hx hb d_MD_members_8 rfl (lv_at hl 0 rfl) ?_
    refine qa_get (k := 22) (i := 0) (f := 10) (val := .ref (qa_a y 28 0)) E hC Nat.one_pos rfl rfl (by decide) f_MD_25 rfl rfl d_MD_members_9 ?_
    refine lv_iload_n hx hb d_MD_members_12 rfl (lv_at hl 1 rfl) ?_
    refine qa_ild (k := 28) (i := 0) (j := i) E hC Nat.one_pos rfl rfl rfl (show i < 7 by omega) d_MD_members_13 ?_
    refine lv_goto hx hb d_MD_members_14 rfl ?_
    exact qa_iret hx hb hr hlocks (by rw [if_pos g1, qm_ix_n (by omega)]; exact qr_msk hR hi) d_MD_members_18
  · refine lv_aload_n hx hb d_MD_members_0 rfl (lv_at hl 0 rfl) ?_
    refine lv_iload_n hx hb d_MD_members_1 rfl (lv_at hl 1 rfl) ?_
    refine qa_pV (k := 22) (i := 0) (As := [.int z]) E hC (c_MD_node l y v z) Nat.one_pos rfl rfl k_MD_83 (qa_fitR (by decide) (by decide)) rfl hl.1 rfl (Nat.le_of_ble_eq_true rfl) d_MD_members_2 ?_
    refine lv_if_eq hx hb d_MD_members_5 rfl (fun _ => ?_) (fun h9 => absurd (qb_zf (Bool.eq_false_iff.mpr g1)) h9)
    refine lv_iconst (v := 0) hx hb d_MD_members_17 (by decide) ?_
    exact qa_iret hx hb hr hlocks (by rw [if_neg g1]) d_MD_members_18

set_option maxHeartbeats 4000000 in
set_option maxRecDepth 100000 in
theorem c_MD_accused (l : Launch) (y : qa_L) (v : qa_M) (z : Int32) (w : qa_M) (hR : qm_RM (qa_n y) w v) : qa_Pu l y_MD_accused b_MD_accused 2 (some .int) 1 [.ref (qa_a y 22 0), .int z] (qa_W y v) (if qm_isn (qa_n y) z = true then w 2 (qm_ix z) 13 else 0) := by
  refine qa_ofPu (plainFor_of_name (by decide)) (Nat.le_of_ble_eq_true rfl) ?_
  intro p e s m below meth c ls F hr hlocks hW hl
  have E : qa_E p m c b_MD_accused 2 s _ "VotedFramesModel" y := ⟨F, hW.2⟩
  have hC : qa_C y v s s.heap [] := ⟨hW.1, va_S.rf⟩
  have hx := F.1
  have hb := F.2.1
  have hown : s.vm.findClass "VotedFramesModel" = some m.cls := F.2.2.2.1
  have hts := F.2.2.2.2
  have hn4 : 4 ≤ qa_n y := E.2.1.2.2.1
  have hn7 : qa_n y ≤ 7 := E.2.1.2.2.2.1
  have hl : lv_has ls 2 [(0, .ref (qa_a y 22 0)), (1, .int z)] := hl
  by_cases g1 : qm_isn (qa_n y) z = true
  · obtain ⟨i, hi, rfl⟩ := qm_wi_n (by omega) (by omega) g1
    have hl : lv_has ls 2 [(0, .ref (qa_a y 22 0)), (1, .int (nI i))] := hl
    refine lv_aload_n hx hb d_MD_accused_0 rfl (lv_at hl 0 rfl) ?_
    refine lv_iload_n hx hb d_MD_accused_1 rfl (lv_at hl 1 rfl) ?_
    refine qa_pV (k := 22) (i := 0) (As := [.int (nI i)]) E hC (c_MD_node l y v (nI i)) Nat.one_pos rfl rfl k_MD_83 (qa_fitR (by decide) (by decide)) rfl hl.1 rfl (Nat.le_of_ble_eq_true rfl) d_MD_accused_2 ?_
    refine lv_if_eq hx hb d_MD_accused_5 rfl (fun h9 => absurd h9 (qb_nz g1)) (fun _ => ?_)
    refine lv_aload_n hx hb d_MD_accused_8 rfl (lv_at hl 0 rfl) ?_
    refine qa_get (k := 22) (i := 0) (f := 11) (val := .ref (qa_a y 29 0)) E hC Nat.one_pos rfl rfl (by decide) f_MD_28 rfl rfl d_MD_accused_9 ?_
    refine lv_iload_n hx hb d_MD_accused_12 rfl (lv_at hl 1 rfl) ?_
    refine qa_ild (k := 29) (i := 0) (j := i) E hC Nat.one_pos rfl rfl rfl (show i < 7 by omega) d_MD_accused_13 ?_
    refine lv_goto hx hb d_MD_accused_14 rfl ?_
    exact qa_iret hx hb hr hlocks (by rw [if_pos g1, qm_ix_n (by omega)]; exact qr_blm hR hi) d_MD_accused_18
  · refine lv_aload_n hx hb d_MD_accused_0 rfl (lv_at hl 0 rfl) ?_
    refine lv_iload_n hx hb d_MD_accused_1 rfl (lv_at hl 1 rfl) ?_
    refine qa_pV (k := 22) (i := 0) (As := [.int z]) E hC (c_MD_node l y v z) Nat.one_pos rfl rfl k_MD_83 (qa_fitR (by decide) (by decide)) rfl hl.1 rfl (Nat.le_of_ble_eq_true rfl) d_MD_accused_2 ?_
    refine lv_if_eq hx hb d_MD_accused_5 rfl (fun _ => ?_) (fun h9 => absurd (qb_zf (Bool.eq_false_iff.mpr g1)) h9)
    refine lv_iconst (v := 0) hx hb d_MD_accused_17 (by decide) ?_
    exact qa_iret hx hb hr hlocks (by rw [if_neg g1]) d_MD_accused_18

set_option maxHeartbeats 4000000 in
set_option maxRecDepth 100000 in
theorem c_MD_input (l : Launch) (y : qa_L) (v : qa_M) (z z2 : Int32) (w : qa_M) (hR : qm_RM (qa_n y) w v) : qa_Pu l y_MD_input b_MD_input 3 (some .int) 1 [.ref (qa_a y 22 0), .int z, .int z2] (qa_W y v) (if qm_isn (qa_n y) z = true ∧ qm_isn (qa_n y) z2 = true then w 5 (qm_ix z) (qm_ix z2) else 0) := by
  refine qa_ofPu (plainFor_of_name (by decide)) (Nat.le_of_ble_eq_true rfl) ?_
  intro p e s m below meth c ls F hr hlocks hW hl
  have E : qa_E p m c b_MD_input 3 s _ "VotedFramesModel" y := ⟨F, hW.2⟩
  have hC : qa_C y v s s.heap [] := ⟨hW.1, va_S.rf⟩
  have hx := F.1
  have hb := F.2.1
  have hown : s.vm.findClass "VotedFramesModel" = some m.cls := F.2.2.2.1
  have hts := F.2.2.2.2
  have hn4 : 4 ≤ qa_n y := E.2.1.2.2.1
  have hn7 : qa_n y ≤ 7 := E.2.1.2.2.2.1
  have hl : lv_has ls 3 [(0, .ref (qa_a y 22 0)), (1, .int z), (2, .int z2)] := hl
  by_cases g1 : qm_isn (qa_n y) z = true
  · obtain ⟨i, hi, rfl⟩ := qm_wi_n (by omega) (by omega) g1
    by_cases g2 : qm_isn (qa_n y) z2 = true
    · obtain ⟨j, hj, rfl⟩ := qm_wi_n (by omega) (by omega) g2
      have hl : lv_has ls 3 [(0, .ref (qa_a y 22 0)), (1, .int (nI i)), (2, .int (nI j))] := hl
      refine lv_aload_n hx hb d_MD_input_0 rfl (lv_at hl 0 rfl) ?_
      refine lv_iload_n hx hb d_MD_input_1 rfl (lv_at hl 1 rfl) ?_
      refine qa_pV (k := 22) (i := 0) (As := [.int (nI i)]) E hC (c_MD_node l y v (nI i)) Nat.one_pos rfl rfl k_MD_83 (qa_fitR (by decide) (by decide)) rfl hl.1 rfl (Nat.le_of_ble_eq_true rfl) d_MD_input_2 ?_
      refine lv_if_eq hx hb d_MD_input_5 rfl (fun h9 => absurd h9 (qb_nz g1)) (fun _ => ?_)
      refine lv_aload_n hx hb d_MD_input_8 rfl (lv_at hl 0 rfl) ?_
      refine lv_iload_n hx hb d_MD_input_9 rfl (lv_at hl 2 rfl) ?_
      refine qa_pV (k := 22) (i := 0) (As := [.int (nI j)]) E hC (c_MD_node l y v (nI j)) Nat.one_pos rfl rfl k_MD_83 (qa_fitR (by decide) (by decide)) rfl hl.1 rfl (Nat.le_of_ble_eq_true rfl) d_MD_input_10 ?_
      refine lv_if_eq hx hb d_MD_input_13 rfl (fun h9 => absurd h9 (qb_nz g2)) (fun _ => ?_)
      refine lv_aload_n hx hb d_MD_input_16 rfl (lv_at hl 0 rfl) ?_
      refine qa_get (k := 22) (i := 0) (f := 15) (val := .ref (qa_a y 33 0)) E hC Nat.one_pos rfl rfl (by decide) f_MD_40 rfl rfl d_MD_input_17 ?_
      refine lv_bipush (v := 7) hx hb d_MD_input_20 (by decide) ?_
      refine lv_iload_n hx hb d_MD_input_22 rfl (lv_at hl 1 rfl) ?_
      refine lv_imul hx hb d_MD_input_23 ?_
      refine lv_iload_n hx hb d_MD_input_24 rfl (lv_at hl 2 rfl) ?_
      refine lv_iadd hx hb d_MD_input_25 ?_
      refine qa_ild (k := 33) (i := 0) (j := ((7 * i) + j)) E hC Nat.one_pos rfl rfl (qn_add (qn_mul rfl rfl) rfl) (show (7 * i) + j < 56 by omega) d_MD_input_26 ?_
      refine lv_goto hx hb d_MD_input_27 rfl ?_
      exact qa_iret hx hb hr hlocks (by rw [if_pos ⟨g1, g2⟩, qm_ix_n (by omega), qm_ix_n (by omega)]; exact qr_inp hR hi hj) d_MD_input_31
    · have hl : lv_has ls 3 [(0, .ref (qa_a y 22 0)), (1, .int (nI i)), (2, .int z2)] := hl
      refine lv_aload_n hx hb d_MD_input_0 rfl (lv_at hl 0 rfl) ?_
      refine lv_iload_n hx hb d_MD_input_1 rfl (lv_at hl 1 rfl) ?_
      refine qa_pV (k := 22) (i := 0) (As := [.int (nI i)]) E hC (c_MD_node l y v (nI i)) Nat.one_pos rfl rfl k_MD_83 (qa_fitR (by decide) (by decide)) rfl hl.1 rfl (Nat.le_of_ble_eq_true rfl) d_MD_input_2 ?_
      refine lv_if_eq hx hb d_MD_input_5 rfl (fun h9 => absurd h9 (qb_nz g1)) (fun _ => ?_)
      refine lv_aload_n hx hb d_MD_input_8 rfl (lv_at hl 0 rfl) ?_
      refine lv_iload_n hx hb d_MD_input_9 rfl (lv_at hl 2 rfl) ?_
      refine qa_pV (k := 22) (i := 0) (As := [.int z2]) E hC (c_MD_node l y v z2) Nat.one_pos rfl rfl k_MD_83 (qa_fitR (by decide) (by decide)) rfl hl.1 rfl (Nat.le_of_ble_eq_true rfl) d_MD_input_10 ?_
      refine lv_if_eq hx hb d_MD_input_13 rfl (fun _ => ?_) (fun h9 => absurd (qb_zf (Bool.eq_false_iff.mpr g2)) h9)
      refine lv_iconst (v := 0) hx hb d_MD_input_30 (by decide) ?_
      exact qa_iret hx hb hr hlocks (by rw [if_neg (fun q => g2 q.2)]) d_MD_input_31
  · refine lv_aload_n hx hb d_MD_input_0 rfl (lv_at hl 0 rfl) ?_
    refine lv_iload_n hx hb d_MD_input_1 rfl (lv_at hl 1 rfl) ?_
    refine qa_pV (k := 22) (i := 0) (As := [.int z]) E hC (c_MD_node l y v z) Nat.one_pos rfl rfl k_MD_83 (qa_fitR (by decide) (by decide)) rfl hl.1 rfl (Nat.le_of_ble_eq_true rfl) d_MD_input_2 ?_
    refine lv_if_eq hx hb d_MD_input_5 rfl (fun _ => ?_) (fun h9 => absurd (qb_zf (Bool.eq_false_iff.mpr g1)) h9)
    refine lv_iconst (v := 0) hx hb d_MD_input_30 (by decide) ?_
    exact qa_iret hx hb hr hlocks (by rw [if_neg (fun q => g1 q.1)]) d_MD_input_31

set_option maxHeartbeats 4000000 in
set_option maxRecDepth 100000 in
theorem c_MD_charge (l : Launch) (y : qa_L) (v : qa_M) (z z2 : Int32) (w : qa_M) (hR : qm_RM (qa_n y) w v) : qa_Pu l y_MD_charge b_MD_charge 3 (some .int) 1 [.ref (qa_a y 22 0), .int z, .int z2] (qa_W y v) (if qm_isn (qa_n y) z = true ∧ qm_isn (qa_n y) z2 = true then w 6 (qm_ix z) (qm_ix z2) else 0) := by
  refine qa_ofPu (plainFor_of_name (by decide)) (Nat.le_of_ble_eq_true rfl) ?_
  intro p e s m below meth c ls F hr hlocks hW hl
  have E : qa_E p m c b_MD_charge 3 s _ "VotedFramesModel" y := ⟨F, hW.2⟩
  have hC : qa_C y v s s.heap [] := ⟨hW.1, va_S.rf⟩
  have hx := F.1
  have hb := F.2.1
  have hown : s.vm.findClass "VotedFramesModel" = some m.cls := F.2.2.2.1
  have hts := F.2.2.2.2
  have hn4 : 4 ≤ qa_n y := E.2.1.2.2.1
  have hn7 : qa_n y ≤ 7 := E.2.1.2.2.2.1
  have hl : lv_has ls 3 [(0, .ref (qa_a y 22 0)), (1, .int z), (2, .int z2)] := hl
  by_cases g1 : qm_isn (qa_n y) z = true
  · obtain ⟨i, hi, rfl⟩ := qm_wi_n (by omega) (by omega) g1
    by_cases g2 : qm_isn (qa_n y) z2 = true
    · obtain ⟨j, hj, rfl⟩ := qm_wi_n (by omega) (by omega) g2
      have hl : lv_has ls 3 [(0, .ref (qa_a y 22 0)), (1, .int (nI i)), (2, .int (nI j))] := hl
      refine lv_aload_n hx hb d_MD_charge_0 rfl (lv_at hl 0 rfl) ?_
      refine lv_iload_n hx hb d_MD_charge_1 rfl (lv_at hl 1 rfl) ?_
      refine qa_pV (k := 22) (i := 0) (As := [.int (nI i)]) E hC (c_MD_node l y v (nI i)) Nat.one_pos rfl rfl k_MD_83 (qa_fitR (by decide) (by decide)) rfl hl.1 rfl (Nat.le_of_ble_eq_true rfl) d_MD_charge_2 ?_
      refine lv_if_eq hx hb d_MD_charge_5 rfl (fun h9 => absurd h9 (qb_nz g1)) (fun _ => ?_)
      refine lv_aload_n hx hb d_MD_charge_8 rfl (lv_at hl 0 rfl) ?_
      refine lv_iload_n hx hb d_MD_charge_9 rfl (lv_at hl 2 rfl) ?_
      refine qa_pV (k := 22) (i := 0) (As := [.int (nI j)]) E hC (c_MD_node l y v (nI j)) Nat.one_pos rfl rfl k_MD_83 (qa_fitR (by decide) (by decide)) rfl hl.1 rfl (Nat.le_of_ble_eq_true rfl) d_MD_charge_10 ?_
      refine lv_if_eq hx hb d_MD_charge_13 rfl (fun h9 => absurd h9 (qb_nz g2)) (fun _ => ?_)
      refine lv_aload_n hx hb d_MD_charge_16 rfl (lv_at hl 0 rfl) ?_
      refine qa_get (k := 22) (i := 0) (f := 16) (val := .ref (qa_a y 34 0)) E hC Nat.one_pos rfl rfl (by decide) f_MD_43 rfl rfl d_MD_charge_17 ?_
      refine lv_bipush (v := 7) hx hb d_MD_charge_20 (by decide) ?_
      refine lv_iload_n hx hb d_MD_charge_22 rfl (lv_at hl 1 rfl) ?_
      refine lv_imul hx hb d_MD_charge_23 ?_
      refine lv_iload_n hx hb d_MD_charge_24 rfl (lv_at hl 2 rfl) ?_
      refine lv_iadd hx hb d_MD_charge_25 ?_
      refine qa_ild (k := 34) (i := 0) (j := ((7 * i) + j)) E hC Nat.one_pos rfl rfl (qn_add (qn_mul rfl rfl) rfl) (show (7 * i) + j < 49 by omega) d_MD_charge_26 ?_
      refine lv_goto hx hb d_MD_charge_27 rfl ?_
      exact qa_iret hx hb hr hlocks (by rw [if_pos ⟨g1, g2⟩, qm_ix_n (by omega), qm_ix_n (by omega)]; exact qr_chg hR hi hj) d_MD_charge_31
    · have hl : lv_has ls 3 [(0, .ref (qa_a y 22 0)), (1, .int (nI i)), (2, .int z2)] := hl
      refine lv_aload_n hx hb d_MD_charge_0 rfl (lv_at hl 0 rfl) ?_
      refine lv_iload_n hx hb d_MD_charge_1 rfl (lv_at hl 1 rfl) ?_
      refine qa_pV (k := 22) (i := 0) (As := [.int (nI i)]) E hC (c_MD_node l y v (nI i)) Nat.one_pos rfl rfl k_MD_83 (qa_fitR (by decide) (by decide)) rfl hl.1 rfl (Nat.le_of_ble_eq_true rfl) d_MD_charge_2 ?_
      refine lv_if_eq hx hb d_MD_charge_5 rfl (fun h9 => absurd h9 (qb_nz g1)) (fun _ => ?_)
      refine lv_aload_n hx hb d_MD_charge_8 rfl (lv_at hl 0 rfl) ?_
      refine lv_iload_n hx hb d_MD_charge_9 rfl (lv_at hl 2 rfl) ?_
      refine qa_pV (k := 22) (i := 0) (As := [.int z2]) E hC (c_MD_node l y v z2) Nat.one_pos rfl rfl k_MD_83 (qa_fitR (by decide) (by decide)) rfl hl.1 rfl (Nat.le_of_ble_eq_true rfl) d_MD_charge_10 ?_
      refine lv_if_eq hx hb d_MD_charge_13 rfl (fun _ => ?_) (fun h9 => absurd (qb_zf (Bool.eq_false_iff.mpr g2)) h9)
      refine lv_iconst (v := 0) hx hb d_MD_charge_30 (by decide) ?_
      exact qa_iret hx hb hr hlocks (by rw [if_neg (fun q => g2 q.2)]) d_MD_charge_31
  · refine lv_aload_n hx hb d_MD_charge_0 rfl (lv_at hl 0 rfl) ?_
    refine lv_iload_n hx hb d_MD_charge_1 rfl (lv_at hl 1 rfl) ?_
    refine qa_pV (k := 22) (i := 0) (As := [.int z]) E hC (c_MD_node l y v z) Nat.one_pos rfl rfl k_MD_83 (qa_fitR (by decide) (by decide)) rfl hl.1 rfl (Nat.le_of_ble_eq_true rfl) d_MD_charge_2 ?_
    refine lv_if_eq hx hb d_MD_charge_5 rfl (fun _ => ?_) (fun h9 => absurd (qb_zf (Bool.eq_false_iff.mpr g1)) h9)
    refine lv_iconst (v := 0) hx hb d_MD_charge_30 (by decide) ?_
    exact qa_iret hx hb hr hlocks (by rw [if_neg (fun q => g1 q.1)]) d_MD_charge_31

set_option maxHeartbeats 4000000 in
set_option maxRecDepth 100000 in
theorem c_MD_word (l : Launch) (y : qa_L) (v : qa_M) (z z2 : Int32) (w : qa_M) (hR : qm_RM (qa_n y) w v) : qa_Pu l y_MD_word b_MD_word 3 (some .int) 1 [.ref (qa_a y 22 0), .int z, .int z2] (qa_W y v) (if qm_isn (qa_n y) z = true ∧ qm_wi z2 0 3 = true then w 7 (qm_ix z) (qm_ix z2) else 0) := by
  refine qa_ofPu (plainFor_of_name (by decide)) (Nat.le_of_ble_eq_true rfl) ?_
  intro p e s m below meth c ls F hr hlocks hW hl
  have E : qa_E p m c b_MD_word 3 s _ "VotedFramesModel" y := ⟨F, hW.2⟩
  have hC : qa_C y v s s.heap [] := ⟨hW.1, va_S.rf⟩
  have hx := F.1
  have hb := F.2.1
  have hown : s.vm.findClass "VotedFramesModel" = some m.cls := F.2.2.2.1
  have hts := F.2.2.2.2
  have hn4 : 4 ≤ qa_n y := E.2.1.2.2.1
  have hn7 : qa_n y ≤ 7 := E.2.1.2.2.2.1
  have hl : lv_has ls 3 [(0, .ref (qa_a y 22 0)), (1, .int z), (2, .int z2)] := hl
  by_cases g1 : qm_isn (qa_n y) z = true
  · obtain ⟨i, hi, rfl⟩ := qm_wi_n (by omega) (by omega) g1
    by_cases g2 : qm_wi z2 0 3 = true
    · obtain ⟨t, ht, rfl⟩ := qm_wi_4 g2
      have hl : lv_has ls 3 [(0, .ref (qa_a y 22 0)), (1, .int (nI i)), (2, .int (nI t))] := hl
      refine lv_aload_n hx hb d_MD_word_0 rfl (lv_at hl 0 rfl) ?_
      refine lv_iload_n hx hb d_MD_word_1 rfl (lv_at hl 1 rfl) ?_
      refine qa_pV (k := 22) (i := 0) (As := [.int (nI i)]) E hC (c_MD_node l y v (nI i)) Nat.one_pos rfl rfl k_MD_83 (qa_fitR (by decide) (by decide)) rfl hl.1 rfl (Nat.le_of_ble_eq_true rfl) d_MD_word_2 ?_
      refine lv_if_eq hx hb d_MD_word_5 rfl (fun h9 => absurd h9 (qb_nz g1)) (fun _ => ?_)
      refine lv_iload_n hx hb d_MD_word_8 rfl (lv_at hl 2 rfl) ?_
      refine qa_pT (As := [.int (nI t)]) F (c_MD_task l (nI t)) k_MD_87 (qa_fitR (by decide) (by decide)) rfl hl.1 rfl (Nat.le_of_ble_eq_true rfl) d_MD_word_9 ?_
      refine lv_if_eq hx hb d_MD_word_12 rfl (fun h9 => absurd h9 (qb_nz g2)) (fun _ => ?_)
      refine lv_aload_n hx hb d_MD_word_15 rfl (lv_at hl 0 rfl) ?_
      refine qa_get (k := 22) (i := 0) (f := 14) (val := .ref (qa_a y 32 0)) E hC Nat.one_pos rfl rfl (by decide) f_MD_37 rfl rfl d_MD_word_16 ?_
      refine lv_iconst (v := 4) hx hb d_MD_word_19 (by decide) ?_
      refine lv_iload_n hx hb d_MD_word_20 rfl (lv_at hl 1 rfl) ?_
      refine lv_imul hx hb d_MD_word_21 ?_
      refine lv_iload_n hx hb d_MD_word_22 rfl (lv_at hl 2 rfl) ?_
      refine lv_iadd hx hb d_MD_word_23 ?_
      refine qa_ild (k := 32) (i := 0) (j := ((4 * i) + t)) E hC Nat.one_pos rfl rfl (qn_add (qn_mul rfl rfl) rfl) (show (4 * i) + t < 32 by omega) d_MD_word_24 ?_
      refine lv_goto hx hb d_MD_word_25 rfl ?_
      exact qa_iret hx hb hr hlocks (by rw [if_pos ⟨g1, g2⟩, qm_ix_n (by omega), qm_ix_n (by omega)]; exact qr_wrd hR hi ht) d_MD_word_29
    · have hl : lv_has ls 3 [(0, .ref (qa_a y 22 0)), (1, .int (nI i)), (2, .int z2)] := hl
      refine lv_aload_n hx hb d_MD_word_0 rfl (lv_at hl 0 rfl) ?_
      refine lv_iload_n hx hb d_MD_word_1 rfl (lv_at hl 1 rfl) ?_
      refine qa_pV (k := 22) (i := 0) (As := [.int (nI i)]) E hC (c_MD_node l y v (nI i)) Nat.one_pos rfl rfl k_MD_83 (qa_fitR (by decide) (by decide)) rfl hl.1 rfl (Nat.le_of_ble_eq_true rfl) d_MD_word_2 ?_
      refine lv_if_eq hx hb d_MD_word_5 rfl (fun h9 => absurd h9 (qb_nz g1)) (fun _ => ?_)
      refine lv_iload_n hx hb d_MD_word_8 rfl (lv_at hl 2 rfl) ?_
      refine qa_pT (As := [.int z2]) F (c_MD_task l z2) k_MD_87 (qa_fitR (by decide) (by decide)) rfl hl.1 rfl (Nat.le_of_ble_eq_true rfl) d_MD_word_9 ?_
      refine lv_if_eq hx hb d_MD_word_12 rfl (fun _ => ?_) (fun h9 => absurd (qb_zf (Bool.eq_false_iff.mpr g2)) h9)
      refine lv_iconst (v := 0) hx hb d_MD_word_28 (by decide) ?_
      exact qa_iret hx hb hr hlocks (by rw [if_neg (fun q => g2 q.2)]) d_MD_word_29
  · refine lv_aload_n hx hb d_MD_word_0 rfl (lv_at hl 0 rfl) ?_
    refine lv_iload_n hx hb d_MD_word_1 rfl (lv_at hl 1 rfl) ?_
    refine qa_pV (k := 22) (i := 0) (As := [.int z]) E hC (c_MD_node l y v z) Nat.one_pos rfl rfl k_MD_83 (qa_fitR (by decide) (by decide)) rfl hl.1 rfl (Nat.le_of_ble_eq_true rfl) d_MD_word_2 ?_
    refine lv_if_eq hx hb d_MD_word_5 rfl (fun _ => ?_) (fun h9 => absurd (qb_zf (Bool.eq_false_iff.mpr g1)) h9)
    refine lv_iconst (v := 0) hx hb d_MD_word_28 (by decide) ?_
    exact qa_iret hx hb hr hlocks (by rw [if_neg (fun q => g1 q.1)]) d_MD_word_29

set_option maxHeartbeats 4000000 in
set_option maxRecDepth 100000 in
theorem c_MD_solo (l : Launch) (y : qa_L) (v : qa_M) (z : Int32) (w : qa_M) (hR : qm_RM (qa_n y) w v) : qa_Pu l y_MD_solo b_MD_solo 2 (some .int) 1 [.ref (qa_a y 22 0), .int z] (qa_W y v) (if qm_wi z 0 3 = true then w 18 0 (qm_ix z) else 0) := by
  refine qa_ofPu (plainFor_of_name (by decide)) (Nat.le_of_ble_eq_true rfl) ?_
  intro p e s m below meth c ls F hr hlocks hW hl
  have E : qa_E p m c b_MD_solo 2 s _ "VotedFramesModel" y := ⟨F, hW.2⟩
  have hC : qa_C y v s s.heap [] := ⟨hW.1, va_S.rf⟩
  have hx := F.1
  have hb := F.2.1
  have hown : s.vm.findClass "VotedFramesModel" = some m.cls := F.2.2.2.1
  have hts := F.2.2.2.2
  have hn4 : 4 ≤ qa_n y := E.2.1.2.2.1
  have hn7 : qa_n y ≤ 7 := E.2.1.2.2.2.1
  have hl : lv_has ls 2 [(0, .ref (qa_a y 22 0)), (1, .int z)] := hl
  by_cases g1 : qm_wi z 0 3 = true
  · obtain ⟨t, ht, rfl⟩ := qm_wi_4 g1
    have hl : lv_has ls 2 [(0, .ref (qa_a y 22 0)), (1, .int (nI t))] := hl
    refine lv_iload_n hx hb d_MD_solo_0 rfl (lv_at hl 1 rfl) ?_
    refine qa_pT (As := [.int (nI t)]) F (c_MD_task l (nI t)) k_MD_87 (qa_fitR (by decide) (by decide)) rfl hl.1 rfl (Nat.le_of_ble_eq_true rfl) d_MD_solo_1 ?_
    refine lv_if_eq hx hb d_MD_solo_4 rfl (fun h9 => absurd h9 (qb_nz g1)) (fun _ => ?_)
    refine lv_aload_n hx hb d_MD_solo_7 rfl (lv_at hl 0 rfl) ?_
    refine qa_get (k := 22) (i := 0) (f := 14) (val := .ref (qa_a y 32 0)) E hC Nat.one_pos rfl rfl (by decide) f_MD_37 rfl rfl d_MD_solo_8 ?_
    refine lv_bipush (v := 28) hx hb d_MD_solo_11 (by decide) ?_
    refine lv_iload_n hx hb d_MD_solo_13 rfl (lv_at hl 1 rfl) ?_
    refine lv_iadd hx hb d_MD_solo_14 ?_
    refine qa_ild (k := 32) (i := 0) (j := (28 + t)) E hC Nat.one_pos rfl rfl (qn_add rfl rfl) (show 28 + t < 32 by omega) d_MD_solo_15 ?_
    refine lv_goto hx hb d_MD_solo_16 rfl ?_
    exact qa_iret hx hb hr hlocks (by rw [if_pos g1, qm_ix_n (by omega)]; exact qr_sol hR ht) d_MD_solo_20
  · refine lv_iload_n hx hb d_MD_solo_0 rfl (lv_at hl 1 rfl) ?_
    refine qa_pT (As := [.int z]) F (c_MD_task l z) k_MD_87 (qa_fitR (by decide) (by decide)) rfl hl.1 rfl (Nat.le_of_ble_eq_true rfl) d_MD_solo_1 ?_
    refine lv_if_eq hx hb d_MD_solo_4 rfl (fun _ => ?_) (fun h9 => absurd (qb_zf (Bool.eq_false_iff.mpr g1)) h9)
    refine lv_iconst (v := 0) hx hb d_MD_solo_19 (by decide) ?_
    exact qa_iret hx hb hr hlocks (by rw [if_neg g1]) d_MD_solo_20
