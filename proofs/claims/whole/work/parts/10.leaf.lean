set_option maxHeartbeats 4000000 in
set_option maxRecDepth 100000 in
theorem c_JM_min (l : Launch) (a b : Int32) : qa_Pu l y_JM_min b_JM_min 2 (some .int) 0 [.int a, .int b] (fun _ => True) (qm_min a b) := by
  refine qa_ofPu (by decide +kernel) (Nat.le_of_ble_eq_true rfl) ?_
  intro p e s m below meth c ls F hr hlocks _ hl
  have hx := F.1
  have hb := F.2.1
  have hown : s.vm.findClass "java/lang/Math" = some m.cls := F.2.2.2.1
  have hts := F.2.2.2.2
  have hl : lv_has ls 2 [(0, .int a), (1, .int b)] := hl
  refine lv_iload_n hx hb d_JM_min_0 rfl (lv_at hl 0 rfl) ?_
  refine lv_iload_n hx hb d_JM_min_1 rfl (lv_at hl 1 rfl) ?_
  refine lv_icmp_gt hx hb d_JM_min_2 rfl (fun h2 => ?_) (fun h2 => ?_)
  · refine lv_iload_n hx hb d_JM_min_9 rfl (lv_at hl 1 rfl) ?_
    exact qa_iret hx hb hr hlocks (by simp only [qm_min]; first | rw [if_pos h2] | rw [if_neg h2]) d_JM_min_10
  · refine lv_iload_n hx hb d_JM_min_5 rfl (lv_at hl 0 rfl) ?_
    refine lv_goto hx hb d_JM_min_6 rfl ?_
    exact qa_iret hx hb hr hlocks (by simp only [qm_min]; first | rw [if_pos h2] | rw [if_neg h2]) d_JM_min_10

set_option maxHeartbeats 4000000 in
set_option maxRecDepth 100000 in
theorem c_JM_max (l : Launch) (a b : Int32) : qa_Pu l y_JM_max b_JM_max 2 (some .int) 0 [.int a, .int b] (fun _ => True) (qm_max a b) := by
  refine qa_ofPu (by decide +kernel) (Nat.le_of_ble_eq_true rfl) ?_
  intro p e s m below meth c ls F hr hlocks _ hl
  have hx := F.1
  have hb := F.2.1
  have hown : s.vm.findClass "java/lang/Math" = some m.cls := F.2.2.2.1
  have hts := F.2.2.2.2
  have hl : lv_has ls 2 [(0, .int a), (1, .int b)] := hl
  refine lv_iload_n hx hb d_JM_max_0 rfl (lv_at hl 0 rfl) ?_
  refine lv_iload_n hx hb d_JM_max_1 rfl (lv_at hl 1 rfl) ?_
  refine lv_icmp_lt hx hb d_JM_max_2 rfl (fun h2 => ?_) (fun h2 => ?_)
  · refine lv_iload_n hx hb d_JM_max_9 rfl (lv_at hl 1 rfl) ?_
    exact qa_iret hx hb hr hlocks (by simp only [qm_max]; first | rw [if_pos h2] | rw [if_neg h2]) d_JM_max_10
  · refine lv_iload_n hx hb d_JM_max_5 rfl (lv_at hl 0 rfl) ?_
    refine lv_goto hx hb d_JM_max_6 rfl ?_
    exact qa_iret hx hb hr hlocks (by simp only [qm_max]; first | rw [if_pos h2] | rw [if_neg h2]) d_JM_max_10

set_option maxHeartbeats 4000000 in
set_option maxRecDepth 100000 in
theorem c_JM_floorDiv (l : Launch) (a b : Int32) (hb0 : ¬ b = 0) : qa_Pu l y_JM_floorDiv b_JM_floorDiv 3 (some .int) 0 [.int a, .int b] (fun _ => True) (qm_fd a b) := by
  refine qa_ofPu (by decide +kernel) (Nat.le_of_ble_eq_true rfl) ?_
  intro p e s m below meth c ls F hr hlocks _ hl
  have hx := F.1
  have hb := F.2.1
  have hown : s.vm.findClass "java/lang/Math" = some m.cls := F.2.2.2.1
  have hts := F.2.2.2.2
  have hl : lv_has ls 3 [(0, .int a), (1, .int b)] := hl
  refine lv_iload_n hx hb d_JM_floorDiv_0 rfl (lv_at hl 0 rfl) ?_
  refine lv_iload_n hx hb d_JM_floorDiv_1 rfl (lv_at hl 1 rfl) ?_
  refine lv_idiv hx hb d_JM_floorDiv_2 hb0 ?_
  refine lv_istore_n hx hb d_JM_floorDiv_3 rfl hl (by decide) rfl (fun ls hl => ?_)
  have hl : lv_has ls 3 [(2, .int (a / b)), (0, .int a), (1, .int b)] := hl
  refine lv_iload_n hx hb d_JM_floorDiv_4 rfl (lv_at hl 1 rfl) ?_
  refine lv_iload_n hx hb d_JM_floorDiv_5 rfl (lv_at hl 2 rfl) ?_
  refine lv_ixor hx hb d_JM_floorDiv_6 ?_
  refine lv_if_ge hx hb d_JM_floorDiv_7 rfl (fun h7 => ?_) (fun h7 => ?_)
  · refine lv_iload_n hx hb d_JM_floorDiv_21 rfl (lv_at hl 0 rfl) ?_
    exact qa_iret hx hb hr hlocks (by simp only [qm_fd]; first | rw [if_pos h7] | rw [if_neg h7, if_pos h14] | rw [if_neg h7, if_neg h14]) d_JM_floorDiv_22
  · refine lv_iload_n hx hb d_JM_floorDiv_10 rfl (lv_at hl 0 rfl) ?_
    refine lv_iload_n hx hb d_JM_floorDiv_11 rfl (lv_at hl 2 rfl) ?_
    refine lv_imul hx hb d_JM_floorDiv_12 ?_
    refine lv_iload_n hx hb d_JM_floorDiv_13 rfl (lv_at hl 1 rfl) ?_
    refine lv_icmp_eq hx hb d_JM_floorDiv_14 rfl (fun h14 => ?_) (fun h14 => ?_)
    · refine lv_iload_n hx hb d_JM_floorDiv_21 rfl (lv_at hl 0 rfl) ?_
      exact qa_iret hx hb hr hlocks (by simp only [qm_fd]; first | rw [if_pos h7] | rw [if_neg h7, if_pos h14] | rw [if_neg h7, if_neg h14]) d_JM_floorDiv_22
    · refine lv_iload_n hx hb d_JM_floorDiv_17 rfl (lv_at hl 0 rfl) ?_
      refine lv_iconst (v := 1) hx hb d_JM_floorDiv_18 (by decide) ?_
      refine lv_isub hx hb d_JM_floorDiv_19 ?_
      exact qa_iret hx hb hr hlocks (by simp only [qm_fd]; first | rw [if_pos h7] | rw [if_neg h7, if_pos h14] | rw [if_neg h7, if_neg h14]) d_JM_floorDiv_20

set_option maxHeartbeats 4000000 in
set_option maxRecDepth 100000 in
theorem c_JI_bitCount (l : Launch) (x : Int32) : qa_Pu l y_JI_bitCount b_JI_bitCount 1 (some .int) 0 [.int x] (fun _ => True) (qm_bc x) := by
  refine qa_ofPu (plainFor_of_name (by decide)) (Nat.le_of_ble_eq_true rfl) ?_
  intro p e s m below meth c ls F hr hlocks _ hl
  have hx := F.1
  have hb := F.2.1
  have hown : s.vm.findClass "java/lang/Integer" = some m.cls := F.2.2.2.1
  have hts := F.2.2.2.2
  have hl : lv_has ls 1 [(0, .int x)] := hl
  refine lv_iload_n hx hb d_JI_bitCount_0 rfl (lv_at hl 0 rfl) ?_
  refine lv_iload_n hx hb d_JI_bitCount_1 rfl (lv_at hl 0 rfl) ?_
  refine lv_iconst (v := 1) hx hb d_JI_bitCount_2 (by decide) ?_
  refine lv_iushr (v := qm_us x 1) hx hb d_JI_bitCount_3 rfl ?_
  refine lv_ldcw (v := 1431655765) hx hb hown (hts _ k_JI_265) d_JI_bitCount_4 ?_
  refine lv_iand hx hb d_JI_bitCount_7 ?_
  refine lv_isub hx hb d_JI_bitCount_8 ?_
  refine W.eq (g2 := F0 m 9 ls [.int (qm_b1 x)]) rfl ?_
  refine lv_istore_n hx hb d_JI_bitCount_9 rfl hl (by decide) rfl (fun ls hl => ?_)
  have hl : lv_has ls 1 [(0, .int (qm_b1 x))] := hl
  refine lv_iload_n hx hb d_JI_bitCount_10 rfl (lv_at hl 0 rfl) ?_
  refine lv_ldcw (v := 858993459) hx hb hown (hts _ k_JI_266) d_JI_bitCount_11 ?_
  refine lv_iand hx hb d_JI_bitCount_14 ?_
  refine lv_iload_n hx hb d_JI_bitCount_15 rfl (lv_at hl 0 rfl) ?_
  refine lv_iconst (v := 2) hx hb d_JI_bitCount_16 (by decide) ?_
  refine lv_iushr (v := qm_us (qm_b1 x) 2) hx hb d_JI_bitCount_17 rfl ?_
  refine lv_ldcw (v := 858993459) hx hb hown (hts _ k_JI_266) d_JI_bitCount_18 ?_
  refine lv_iand hx hb d_JI_bitCount_21 ?_
  refine lv_iadd hx hb d_JI_bitCount_22 ?_
  refine W.eq (g2 := F0 m 23 ls [.int (qm_b2 (qm_b1 x))]) rfl ?_
  refine lv_istore_n hx hb d_JI_bitCount_23 rfl hl (by decide) rfl (fun ls hl => ?_)
  have hl : lv_has ls 1 [(0, .int (qm_b2 (qm_b1 x)))] := hl
  refine lv_iload_n hx hb d_JI_bitCount_24 rfl (lv_at hl 0 rfl) ?_
  refine lv_iload_n hx hb d_JI_bitCount_25 rfl (lv_at hl 0 rfl) ?_
  refine lv_iconst (v := 4) hx hb d_JI_bitCount_26 (by decide) ?_
  refine lv_iushr (v := qm_us (qm_b2 (qm_b1 x)) 4) hx hb d_JI_bitCount_27 rfl ?_
  refine lv_iadd hx hb d_JI_bitCount_28 ?_
  refine lv_ldcw (v := 252645135) hx hb hown (hts _ k_JI_267) d_JI_bitCount_29 ?_
  refine lv_iand hx hb d_JI_bitCount_32 ?_
  refine W.eq (g2 := F0 m 33 ls [.int (qm_b3 (qm_b2 (qm_b1 x)))]) rfl ?_
  refine lv_istore_n hx hb d_JI_bitCount_33 rfl hl (by decide) rfl (fun ls hl => ?_)
  have hl : lv_has ls 1 [(0, .int (qm_b3 (qm_b2 (qm_b1 x))))] := hl
  refine lv_iload_n hx hb d_JI_bitCount_34 rfl (lv_at hl 0 rfl) ?_
  refine lv_iload_n hx hb d_JI_bitCount_35 rfl (lv_at hl 0 rfl) ?_
  refine lv_bipush (v := 8) hx hb d_JI_bitCount_36 (by decide) ?_
  refine lv_iushr (v := qm_us (qm_b3 (qm_b2 (qm_b1 x))) 8) hx hb d_JI_bitCount_38 rfl ?_
  refine lv_iadd hx hb d_JI_bitCount_39 ?_
  refine W.eq (g2 := F0 m 40 ls [.int (qm_b4 (qm_b3 (qm_b2 (qm_b1 x))))]) rfl ?_
  refine lv_istore_n hx hb d_JI_bitCount_40 rfl hl (by decide) rfl (fun ls hl => ?_)
  have hl : lv_has ls 1 [(0, .int (qm_b4 (qm_b3 (qm_b2 (qm_b1 x)))))] := hl
  refine lv_iload_n hx hb d_JI_bitCount_41 rfl (lv_at hl 0 rfl) ?_
  refine lv_iload_n hx hb d_JI_bitCount_42 rfl (lv_at hl 0 rfl) ?_
  refine lv_bipush (v := 16) hx hb d_JI_bitCount_43 (by decide) ?_
  refine lv_iushr (v := qm_us (qm_b4 (qm_b3 (qm_b2 (qm_b1 x)))) 16) hx hb d_JI_bitCount_45 rfl ?_
  refine lv_iadd hx hb d_JI_bitCount_46 ?_
  refine W.eq (g2 := F0 m 47 ls [.int (qm_b5 (qm_b4 (qm_b3 (qm_b2 (qm_b1 x)))))]) rfl ?_
  refine lv_istore_n hx hb d_JI_bitCount_47 rfl hl (by decide) rfl (fun ls hl => ?_)
  have hl : lv_has ls 1 [(0, .int (qm_b5 (qm_b4 (qm_b3 (qm_b2 (qm_b1 x))))))] := hl
  refine lv_iload_n hx hb d_JI_bitCount_48 rfl (lv_at hl 0 rfl) ?_
  refine lv_bipush (v := 63) hx hb d_JI_bitCount_49 (by decide) ?_
  refine lv_iand hx hb d_JI_bitCount_51 ?_
  exact qa_iret hx hb hr hlocks rfl d_JI_bitCount_52

set_option maxHeartbeats 4000000 in
set_option maxRecDepth 100000 in
theorem c_VF_within (l : Launch) (z lo hi : Int32) : qa_Pu l y_VF_within b_VF_within 3 (some .boolean) 0 [.int z, .int lo, .int hi] (fun _ => True) (qb (qm_wi z lo hi)) := by
  refine qa_ofPu (plainFor_of_name (by decide)) (Nat.le_of_ble_eq_true rfl) ?_
  intro p e s m below meth c ls F hr hlocks _ hl
  have hx := F.1
  have hb := F.2.1
  have hown : s.vm.findClass "VotedFrames" = some m.cls := F.2.2.2.1
  have hts := F.2.2.2.2
  have hl : lv_has ls 3 [(0, .int z), (1, .int lo), (2, .int hi)] := hl
  refine lv_iload_n hx hb d_VF_within_0 rfl (lv_at hl 1 rfl) ?_
  refine lv_iload_n hx hb d_VF_within_1 rfl (lv_at hl 0 rfl) ?_
  refine lv_icmp_gt hx hb d_VF_within_2 rfl (fun h2 => ?_) (fun h2 => ?_)
  · refine lv_iconst (v := 0) hx hb d_VF_within_14 (by decide) ?_
    exact qa_zret hx hb hr hlocks (by first | exact qb_0 (qm_wi_f1 (qm_nle h2)) | exact qb_0 (qm_wi_f2 (qm_nle h7)) | exact qb_1 (qm_wi_t (qm_nlt h2) (qm_nlt h7))) rfl d_VF_within_15
  · refine lv_iload_n hx hb d_VF_within_5 rfl (lv_at hl 0 rfl) ?_
    refine lv_iload_n hx hb d_VF_within_6 rfl (lv_at hl 2 rfl) ?_
    refine lv_icmp_gt hx hb d_VF_within_7 rfl (fun h7 => ?_) (fun h7 => ?_)
    · refine lv_iconst (v := 0) hx hb d_VF_within_14 (by decide) ?_
      exact qa_zret hx hb hr hlocks (by first | exact qb_0 (qm_wi_f1 (qm_nle h2)) | exact qb_0 (qm_wi_f2 (qm_nle h7)) | exact qb_1 (qm_wi_t (qm_nlt h2) (qm_nlt h7))) rfl d_VF_within_15
    · refine lv_iconst (v := 1) hx hb d_VF_within_10 (by decide) ?_
      refine lv_goto hx hb d_VF_within_11 rfl ?_
      exact qa_zret hx hb hr hlocks (by first | exact qb_0 (qm_wi_f1 (qm_nle h2)) | exact qb_0 (qm_wi_f2 (qm_nle h7)) | exact qb_1 (qm_wi_t (qm_nlt h2) (qm_nlt h7))) rfl d_VF_within_15

set_option maxHeartbeats 4000000 in
set_option maxRecDepth 100000 in
theorem c_VF_isAtMost (l : Launch) (z b : Int32) : qa_Pu l y_VF_isAtMost b_VF_isAtMost 2 (some .boolean) 1 [.int z, .int b] (fun _ => True) (qb (qm_wi z (-b) b)) := by
  refine qa_ofPu (plainFor_of_name (by decide)) (Nat.le_of_ble_eq_true rfl) ?_
  intro p e s m below meth c ls F hr hlocks _ hl
  have hx := F.1
  have hb := F.2.1
  have hown : s.vm.findClass "VotedFrames" = some m.cls := F.2.2.2.1
  have hts := F.2.2.2.2
  have hl : lv_has ls 2 [(0, .int z), (1, .int b)] := hl
  refine lv_iload_n hx hb d_VF_isAtMost_0 rfl (lv_at hl 0 rfl) ?_
  refine lv_iload_n hx hb d_VF_isAtMost_1 rfl (lv_at hl 1 rfl) ?_
  refine lv_ineg hx hb d_VF_isAtMost_2 ?_
  refine lv_iload_n hx hb d_VF_isAtMost_3 rfl (lv_at hl 1 rfl) ?_
  refine qa_pT (As := [.int z, .int (-b), .int b]) F (c_VF_within l z (-b) b) k_VF_17 (qa_fitR (by decide) (by decide)) rfl hl.1 rfl (Nat.le_of_ble_eq_true rfl) d_VF_isAtMost_4 ?_
  exact qa_zret hx hb hr hlocks rfl (qb_nar _) d_VF_isAtMost_7

set_option maxHeartbeats 4000000 in
set_option maxRecDepth 100000 in
theorem c_VF_clamp (l : Launch) (z lo hi : Int32) : qa_Pu l y_VF_clamp b_VF_clamp 3 (some .int) 1 [.int z, .int lo, .int hi] (fun _ => True) (qm_max lo (qm_min hi z)) := by
  refine qa_ofPu (plainFor_of_name (by decide)) (Nat.le_of_ble_eq_true rfl) ?_
  intro p e s m below meth c ls F hr hlocks _ hl
  have hx := F.1
  have hb := F.2.1
  have hown : s.vm.findClass "VotedFrames" = some m.cls := F.2.2.2.1
  have hts := F.2.2.2.2
  have hl : lv_has ls 3 [(0, .int z), (1, .int lo), (2, .int hi)] := hl
  refine lv_iload_n hx hb d_VF_clamp_0 rfl (lv_at hl 1 rfl) ?_
  refine lv_iload_n hx hb d_VF_clamp_1 rfl (lv_at hl 2 rfl) ?_
  refine lv_iload_n hx hb d_VF_clamp_2 rfl (lv_at hl 0 rfl) ?_
  refine qa_pT (As := [.int hi, .int z]) F (c_JM_min l hi z) k_VF_155 (qa_fitR (by decide) (by decide)) rfl hl.1 rfl (Nat.le_of_ble_eq_true rfl) d_VF_clamp_3 ?_
  refine qa_pT (As := [.int lo, .int (qm_min hi z)]) F (c_JM_max l lo (qm_min hi z)) k_VF_161 (qa_fitR (by decide) (by decide)) rfl hl.1 rfl (Nat.le_of_ble_eq_true rfl) d_VF_clamp_6 ?_
  exact qa_iret hx hb hr hlocks rfl d_VF_clamp_9

set_option maxHeartbeats 4000000 in
set_option maxRecDepth 100000 in
theorem c_VF_contains (l : Launch) (z k : Int32) : qa_Pu l y_VF_contains b_VF_contains 2 (some .boolean) 0 [.int z, .int k] (fun _ => True) (qb (qm_in z k)) := by
  refine qa_ofPu (plainFor_of_name (by decide)) (Nat.le_of_ble_eq_true rfl) ?_
  intro p e s m below meth c ls F hr hlocks _ hl
  have hx := F.1
  have hb := F.2.1
  have hown : s.vm.findClass "VotedFrames" = some m.cls := F.2.2.2.1
  have hts := F.2.2.2.2
  have hl : lv_has ls 2 [(0, .int z), (1, .int k)] := hl
  refine lv_iload_n hx hb d_VF_contains_0 rfl (lv_at hl 0 rfl) ?_
  refine lv_iload_n hx hb d_VF_contains_1 rfl (lv_at hl 1 rfl) ?_
  refine lv_ishr hx hb d_VF_contains_2 ?_
  refine lv_iconst (v := 1) hx hb d_VF_contains_3 (by decide) ?_
  refine lv_iand hx hb d_VF_contains_4 ?_
  refine lv_if_eq hx hb d_VF_contains_5 rfl (fun h5 => ?_) (fun h5 => ?_)
  · refine lv_iconst (v := 0) hx hb d_VF_contains_12 (by decide) ?_
    exact qa_zret hx hb hr hlocks (by simp only [qm_in]; first | (rw [decide_eq_true h5]; rfl) | (rw [decide_eq_false h5]; rfl)) rfl d_VF_contains_13
  · refine lv_iconst (v := 1) hx hb d_VF_contains_8 (by decide) ?_
    refine lv_goto hx hb d_VF_contains_9 rfl ?_
    exact qa_zret hx hb hr hlocks (by simp only [qm_in]; first | (rw [decide_eq_true h5]; rfl) | (rw [decide_eq_false h5]; rfl)) rfl d_VF_contains_13

set_option maxHeartbeats 4000000 in
set_option maxRecDepth 100000 in
theorem c_VF_isTask (l : Launch) (z : Int32) : qa_Pu l y_VF_isTask b_VF_isTask 1 (some .boolean) 1 [.int z] (fun _ => True) (qb (qm_wi z 0 3)) := by
  refine qa_ofPu (plainFor_of_name (by decide)) (Nat.le_of_ble_eq_true rfl) ?_
  intro p e s m below meth c ls F hr hlocks _ hl
  have hx := F.1
  have hb := F.2.1
  have hown : s.vm.findClass "VotedFrames" = some m.cls := F.2.2.2.1
  have hts := F.2.2.2.2
  have hl : lv_has ls 1 [(0, .int z)] := hl
  refine lv_iload_n hx hb d_VF_isTask_0 rfl (lv_at hl 0 rfl) ?_
  refine lv_iconst (v := 0) hx hb d_VF_isTask_1 (by decide) ?_
  refine lv_iconst (v := 3) hx hb d_VF_isTask_2 (by decide) ?_
  refine qa_pT (As := [.int z, .int 0, .int 3]) F (c_VF_within l z 0 3) k_VF_17 (qa_fitR (by decide) (by decide)) rfl hl.1 rfl (Nat.le_of_ble_eq_true rfl) d_VF_isTask_3 ?_
  exact qa_zret hx hb hr hlocks rfl (qb_nar _) d_VF_isTask_6
