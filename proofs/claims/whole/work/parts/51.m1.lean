set_option maxHeartbeats 4000000 in
set_option maxRecDepth 100000 in
theorem c_MD_node (l : Launch) (y : qa_L) (v : qa_M) (z : Int32) : qa_Pu l y_MD_node b_MD_node 2 (some .boolean) 0 [.ref (qa_a y 22 0), .int z] (qa_W y v) (qb (qm_isn (qa_n y) z)) := by
  refine qa_ofPu (plainFor_of_name (by decide)) (Nat.le_of_ble_eq_true rfl) ?_
  intro p e s m below meth c ls F hr hlocks hW hl
  have E : qa_E p m c b_MD_node 2 s _ "VotedFramesModel" y := ⟨F, hW.2⟩
  have hC : qa_C y v s s.heap [] := ⟨hW.1, va_S.rf⟩
  have hx := F.1
  have hb := F.2.1
  have hown : s.vm.findClass "VotedFramesModel" = some m.cls := F.2.2.2.1
  have hts := F.2.2.2.2
  have hn4 : 4 ≤ qa_n y := E.2.1.2.2.1
  have hn7 : qa_n y ≤ 7 := E.2.1.2.2.2.1
  have hl : lv_has ls 2 [(0, .ref (qa_a y 22 0)), (1, .int z)] := hl
  refine lv_iload_n hx hb d_MD_node_0 rfl (lv_at hl 1 rfl) ?_
  refine lv_if_lt hx hb d_MD_node_1 rfl (fun h1 => ?_) (fun h1 => ?_)
  · refine lv_iconst (v := 0) hx hb d_MD_node_16 (by decide) ?_
    exact qa_zret hx hb hr hlocks (qb_0 (by rw [qm_isn_m (by omega) (by omega)]; rw [decide_eq_false (qm_nle h1)]; rfl)) rfl d_MD_node_17
  · refine lv_iload_n hx hb d_MD_node_4 rfl (lv_at hl 1 rfl) ?_
    refine lv_aload_n hx hb d_MD_node_5 rfl (lv_at hl 0 rfl) ?_
    refine qa_get (k := 22) (i := 0) (f := 0) (val := .int (nI (qa_n y))) E hC Nat.one_pos rfl rfl (by decide) f_MD_73 rfl rfl d_MD_node_6 ?_
    refine lv_icmp_ge hx hb d_MD_node_9 rfl (fun h9 => ?_) (fun h9 => ?_)
    · refine lv_iconst (v := 0) hx hb d_MD_node_16 (by decide) ?_
      exact qa_zret hx hb hr hlocks (qb_0 (by rw [qm_isn_m (by omega) (by omega)]; rw [decide_eq_false (qm_nlt2 h9), Bool.and_false])) rfl d_MD_node_17
    · refine lv_iconst (v := 1) hx hb d_MD_node_12 (by decide) ?_
      refine lv_goto hx hb d_MD_node_13 rfl ?_
      exact qa_zret hx hb hr hlocks (qb_1 (by rw [qm_isn_m (by omega) (by omega)]; rw [decide_eq_true (qm_nlt h1), decide_eq_true (qm_lt h9)]; rfl)) rfl d_MD_node_17

set_option maxHeartbeats 4000000 in
set_option maxRecDepth 100000 in
theorem c_MD_task (l : Launch) (z : Int32) : qa_Pu l y_MD_task b_MD_task 1 (some .boolean) 0 [.int z] (fun _ => True) (qb (qm_wi z 0 3)) := by
  refine qa_ofPu (plainFor_of_name (by decide)) (Nat.le_of_ble_eq_true rfl) ?_
  intro p e s m below meth c ls F hr hlocks _ hl
  have hx := F.1
  have hb := F.2.1
  have hown : s.vm.findClass "VotedFramesModel" = some m.cls := F.2.2.2.1
  have hts := F.2.2.2.2
  have hl : lv_has ls 1 [(0, .int z)] := hl
  refine lv_iload_n hx hb d_MD_task_0 rfl (lv_at hl 0 rfl) ?_
  refine lv_if_lt hx hb d_MD_task_1 rfl (fun h1 => ?_) (fun h1 => ?_)
  · refine lv_iconst (v := 0) hx hb d_MD_task_13 (by decide) ?_
    exact qa_zret hx hb hr hlocks (qb_0 (qm_wi_f1 (qm_nle h1))) rfl d_MD_task_14
  · refine lv_iload_n hx hb d_MD_task_4 rfl (lv_at hl 0 rfl) ?_
    refine lv_iconst (v := 3) hx hb d_MD_task_5 (by decide) ?_
    refine lv_icmp_gt hx hb d_MD_task_6 rfl (fun h6 => ?_) (fun h6 => ?_)
    · refine lv_iconst (v := 0) hx hb d_MD_task_13 (by decide) ?_
      exact qa_zret hx hb hr hlocks (qb_0 (qm_wi_f2 (qm_nle h6))) rfl d_MD_task_14
    · refine lv_iconst (v := 1) hx hb d_MD_task_9 (by decide) ?_
      refine lv_goto hx hb d_MD_task_10 rfl ?_
      exact qa_zret hx hb hr hlocks (qb_1 (qm_wi_t (qm_nlt h1) (qm_nlt h6))) rfl d_MD_task_14

set_option maxHeartbeats 4000000 in
set_option maxRecDepth 100000 in
theorem c_MD_down (l : Launch) (a b : Int32) (hb0 : ¬ b = 0) : qa_Pu l y_MD_down b_MD_down 3 (some .int) 0 [.int a, .int b] (fun _ => True) (qm_fd a b) := by
  refine qa_ofPu (plainFor_of_name (by decide)) (Nat.le_of_ble_eq_true rfl) ?_
  intro p e s m below meth c ls F hr hlocks _ hl
  have hx := F.1
  have hb := F.2.1
  have hown : s.vm.findClass "VotedFramesModel" = some m.cls := F.2.2.2.1
  have hts := F.2.2.2.2
  have hl : lv_has ls 3 [(0, .int a), (1, .int b)] := hl
  refine lv_iload_n hx hb d_MD_down_0 rfl (lv_at hl 0 rfl) ?_
  refine lv_iload_n hx hb d_MD_down_1 rfl (lv_at hl 1 rfl) ?_
  refine lv_idiv hx hb d_MD_down_2 hb0 ?_
  refine lv_istore_n hx hb d_MD_down_3 rfl hl (by decide) rfl (fun ls hl => ?_)
  have hl : lv_has ls 3 [(2, .int (a / b)), (0, .int a), (1, .int b)] := hl
  refine lv_iload_n hx hb d_MD_down_4 rfl (lv_at hl 1 rfl) ?_
  refine lv_iload_n hx hb d_MD_down_5 rfl (lv_at hl 2 rfl) ?_
  refine lv_irem hx hb d_MD_down_6 hb0 ?_
  refine lv_if_eq hx hb d_MD_down_7 rfl (fun h7 => ?_) (fun h7 => ?_)
  · refine lv_iload_n hx hb d_MD_down_37 rfl (lv_at hl 0 rfl) ?_
    exact qa_iret hx hb hr hlocks (by unfold qm_fd; rw [if_pos (qm_rem0 h7), ite_self]) d_MD_down_38
  · refine lv_iload_n hx hb d_MD_down_10 rfl (lv_at hl 1 rfl) ?_
    refine lv_if_ge hx hb d_MD_down_11 rfl (fun h11 => ?_) (fun h11 => ?_)
    · refine lv_iconst (v := 0) hx hb d_MD_down_18 (by decide) ?_
      refine lv_iload_n hx hb d_MD_down_19 rfl (lv_at hl 2 rfl) ?_
      refine lv_if_ge hx hb d_MD_down_20 rfl (fun h20 => ?_) (fun h20 => ?_)
      · refine lv_iconst (v := 0) hx hb d_MD_down_27 (by decide) ?_
        refine lv_icmp_eq hx hb d_MD_down_28 rfl (fun _ => ?_) (fun h9 => absurd rfl h9)
        refine lv_iload_n hx hb d_MD_down_37 rfl (lv_at hl 0 rfl) ?_
        exact qa_iret hx hb hr hlocks (by unfold qm_fd; rw [if_pos (qm_xs (Or.inr ⟨(qm_nlt2 h11), (qm_nlt2 h20)⟩))]) d_MD_down_38
      · refine lv_iconst (v := 1) hx hb d_MD_down_23 (by decide) ?_
        refine lv_goto hx hb d_MD_down_24 rfl ?_
        refine lv_icmp_eq hx hb d_MD_down_28 rfl (fun h9 => absurd h9 (by decide)) (fun _ => ?_)
        refine lv_iload_n hx hb d_MD_down_31 rfl (lv_at hl 0 rfl) ?_
        refine lv_iconst (v := 1) hx hb d_MD_down_32 (by decide) ?_
        refine lv_isub hx hb d_MD_down_33 ?_
        refine lv_goto hx hb d_MD_down_34 rfl ?_
        exact qa_iret hx hb hr hlocks (by unfold qm_fd; rw [if_neg (qm_xd (Or.inr ⟨(qm_nlt2 h11), (qm_lt h20)⟩)), if_neg (fun q => h7 (by rw [q, Int32.sub_self]))]) d_MD_down_38
    · refine lv_iconst (v := 1) hx hb d_MD_down_14 (by decide) ?_
      refine lv_goto hx hb d_MD_down_15 rfl ?_
      refine lv_iload_n hx hb d_MD_down_19 rfl (lv_at hl 2 rfl) ?_
      refine lv_if_ge hx hb d_MD_down_20 rfl (fun h20 => ?_) (fun h20 => ?_)
      · refine lv_iconst (v := 0) hx hb d_MD_down_27 (by decide) ?_
        refine lv_icmp_eq hx hb d_MD_down_28 rfl (fun h9 => absurd h9 (by decide)) (fun _ => ?_)
        refine lv_iload_n hx hb d_MD_down_31 rfl (lv_at hl 0 rfl) ?_
        refine lv_iconst (v := 1) hx hb d_MD_down_32 (by decide) ?_
        refine lv_isub hx hb d_MD_down_33 ?_
        refine lv_goto hx hb d_MD_down_34 rfl ?_
        exact qa_iret hx hb hr hlocks (by unfold qm_fd; rw [if_neg (qm_xd (Or.inl ⟨(qm_lt h11), (qm_nlt2 h20)⟩)), if_neg (fun q => h7 (by rw [q, Int32.sub_self]))]) d_MD_down_38
      · refine lv_iconst (v := 1) hx hb d_MD_down_23 (by decide) ?_
        refine lv_goto hx hb d_MD_down_24 rfl ?_
        refine lv_icmp_eq hx hb d_MD_down_28 rfl (fun _ => ?_) (fun h9 => absurd rfl h9)
        refine lv_iload_n hx hb d_MD_down_37 rfl (lv_at hl 0 rfl) ?_
        exact qa_iret hx hb hr hlocks (by unfold qm_fd; rw [if_pos (qm_xs (Or.inl ⟨(qm_lt h11), (qm_lt h20)⟩))]) d_MD_down_38

set_option maxHeartbeats 4000000 in
set_option maxRecDepth 100000 in
theorem c_MD_two (l : Launch) (op a b : Int32) (h6 : op = 6 → ¬ b = 0) : qa_Pu l y_MD_two b_MD_two 3 (some .int) 1 [.int op, .int a, .int b] (fun _ => True) (qm_two op a b) := by
  refine qa_ofPu (plainFor_of_name (by decide)) (Nat.le_of_ble_eq_true rfl) ?_
  intro p e s m below meth c ls F hr hlocks _ hl
  have hx := F.1
  have hb := F.2.1
  have hown : s.vm.findClass "VotedFramesModel" = some m.cls := F.2.2.2.1
  have hts := F.2.2.2.2
  have hl : lv_has ls 3 [(0, .int op), (1, .int a), (2, .int b)] := hl
  refine lv_iload_n hx hb d_MD_two_0 rfl (lv_at hl 0 rfl) ?_
  rcases qm_sw36 op with k1 | k1 | k1 | k1 | k1
  · refine lv_tableIn (off := 31) (tgt := 32) hx hb d_MD_two_1 (by rw [k1]; decide) (by rw [k1]; decide) (by rw [k1]; rfl) rfl ?_
    refine lv_iload_n hx hb d_MD_two_32 rfl (lv_at hl 1 rfl) ?_
    refine lv_iload_n hx hb d_MD_two_33 rfl (lv_at hl 2 rfl) ?_
    refine lv_iadd hx hb d_MD_two_34 ?_
    exact qa_iret hx hb hr hlocks (by unfold qm_two; rw [if_pos k1]) d_MD_two_35
  · refine lv_tableIn (off := 35) (tgt := 36) hx hb d_MD_two_1 (by rw [k1]; decide) (by rw [k1]; decide) (by rw [k1]; rfl) rfl ?_
    refine lv_iload_n hx hb d_MD_two_36 rfl (lv_at hl 1 rfl) ?_
    refine lv_iload_n hx hb d_MD_two_37 rfl (lv_at hl 2 rfl) ?_
    refine lv_isub hx hb d_MD_two_38 ?_
    exact qa_iret hx hb hr hlocks (by unfold qm_two; rw [if_neg (by rw [k1]; decide), if_pos k1]) d_MD_two_39
  · refine lv_tableIn (off := 39) (tgt := 40) hx hb d_MD_two_1 (by rw [k1]; decide) (by rw [k1]; decide) (by rw [k1]; rfl) rfl ?_
    refine lv_iload_n hx hb d_MD_two_40 rfl (lv_at hl 1 rfl) ?_
    refine lv_iload_n hx hb d_MD_two_41 rfl (lv_at hl 2 rfl) ?_
    refine lv_imul hx hb d_MD_two_42 ?_
    exact qa_iret hx hb hr hlocks (by unfold qm_two; rw [if_neg (by rw [k1]; decide), if_neg (by rw [k1]; decide), if_pos k1]) d_MD_two_43
  · refine lv_tableIn (off := 43) (tgt := 44) hx hb d_MD_two_1 (by rw [k1]; decide) (by rw [k1]; decide) (by rw [k1]; rfl) rfl ?_
    refine lv_iload_n hx hb d_MD_two_44 rfl (lv_at hl 1 rfl) ?_
    refine lv_iload_n hx hb d_MD_two_45 rfl (lv_at hl 2 rfl) ?_
    refine qa_pT (As := [.int a, .int b]) F (c_MD_down l a b (h6 k1)) k_MD_126 (qa_fitR (by decide) (by decide)) rfl hl.1 rfl (Nat.le_of_ble_eq_true rfl) d_MD_two_46 ?_
    exact qa_iret hx hb hr hlocks (by unfold qm_two; rw [if_neg (by rw [k1]; decide), if_neg (by rw [k1]; decide), if_neg (by rw [k1]; decide), if_pos k1, if_neg (h6 k1)]) d_MD_two_49
  · refine lv_tableOut (tgt := 50) hx hb d_MD_two_1 k1 rfl ?_
    refine lv_iload_n hx hb d_MD_two_50 rfl (lv_at hl 1 rfl) ?_
    refine lv_iload_n hx hb d_MD_two_51 rfl (lv_at hl 2 rfl) ?_
    refine lv_icmp_ge hx hb d_MD_two_52 rfl (fun h52 => ?_) (fun h52 => ?_)
    · refine lv_iconst (v := 0) hx hb d_MD_two_59 (by decide) ?_
      exact qa_iret hx hb hr hlocks (by unfold qm_two; rw [if_neg (qm_out_ne k1 (by decide) (by decide)), if_neg (qm_out_ne k1 (by decide) (by decide)), if_neg (qm_out_ne k1 (by decide) (by decide)), if_neg (qm_out_ne k1 (by decide) (by decide)), if_neg (qm_nlt2 h52)]) d_MD_two_60
    · refine lv_iconst (v := 1) hx hb d_MD_two_55 (by decide) ?_
      refine lv_goto hx hb d_MD_two_56 rfl ?_
      exact qa_iret hx hb hr hlocks (by unfold qm_two; rw [if_neg (qm_out_ne k1 (by decide) (by decide)), if_neg (qm_out_ne k1 (by decide) (by decide)), if_neg (qm_out_ne k1 (by decide) (by decide)), if_neg (qm_out_ne k1 (by decide) (by decide)), if_pos (qm_lt h52)]) d_MD_two_60

set_option maxHeartbeats 4000000 in
set_option maxRecDepth 100000 in
theorem c_MD_member (l : Launch) (y : qa_L) (v : qa_M) (i : Nat) (k : Int32) (hi : i < qa_n y) : qa_Pu l y_MD_member b_MD_member 3 (some .boolean) 0 [.ref (qa_a y 22 0), .int (nI i), .int k] (qa_W y v) (qb (qm_in (v 28 0 i) k)) := by
  refine qa_ofPu (plainFor_of_name (by decide)) (Nat.le_of_ble_eq_true rfl) ?_
  intro p e s m below meth c ls F hr hlocks hW hl
  have E : qa_E p m c b_MD_member 3 s _ "VotedFramesModel" y := ⟨F, hW.2⟩
  have hC : qa_C y v s s.heap [] := ⟨hW.1, va_S.rf⟩
  have hx := F.1
  have hb := F.2.1
  have hown : s.vm.findClass "VotedFramesModel" = some m.cls := F.2.2.2.1
  have hts := F.2.2.2.2
  have hn4 : 4 ≤ qa_n y := E.2.1.2.2.1
  have hn7 : qa_n y ≤ 7 := E.2.1.2.2.2.1
  have hl : lv_has ls 3 [(0, .ref (qa_a y 22 0)), (1, .int (nI i)), (2, .int k)] := hl
  refine lv_aload_n hx hb d_MD_member_0 rfl (lv_at hl 0 rfl) ?_
  refine qa_get (k := 22) (i := 0) (f := 10) (val := .ref (qa_a y 28 0)) E hC Nat.one_pos rfl rfl (by decide) f_MD_25 rfl rfl d_MD_member_1 ?_
  refine lv_iload_n hx hb d_MD_member_4 rfl (lv_at hl 1 rfl) ?_
  refine qa_ild (k := 28) (i := 0) (j := i) E hC Nat.one_pos rfl rfl rfl (show i < 7 by omega) d_MD_member_5 ?_
  refine lv_iload_n hx hb d_MD_member_6 rfl (lv_at hl 2 rfl) ?_
  refine lv_ishr hx hb d_MD_member_7 ?_
  refine lv_iconst (v := 1) hx hb d_MD_member_8 (by decide) ?_
  refine lv_iand hx hb d_MD_member_9 ?_
  refine lv_iconst (v := 1) hx hb d_MD_member_10 (by decide) ?_
  refine lv_icmp_ne hx hb d_MD_member_11 rfl (fun h11 => ?_) (fun h11 => ?_)
  · refine lv_iconst (v := 0) hx hb d_MD_member_18 (by decide) ?_
    exact qa_zret hx hb hr hlocks (qb_0 (qm_in_1f h11)) rfl d_MD_member_19
  · refine lv_iconst (v := 1) hx hb d_MD_member_14 (by decide) ?_
    refine lv_goto hx hb d_MD_member_15 rfl ?_
    exact qa_zret hx hb hr hlocks (qb_1 (qm_in_1t h11)) rfl d_MD_member_19

set_option maxHeartbeats 4000000 in
set_option maxRecDepth 100000 in
theorem c_MD_size (l : Launch) (y : qa_L) (v : qa_M) (i : Nat) (hi : i < qa_n y) : qa_Pu l y_MD_size b_MD_size 4 (some .int) 1 [.ref (qa_a y 22 0), .int (nI i)] (qa_W y v) (nI (qm_pc (qa_n y) (v 28 0 i))) := by
  refine qa_ofPu (plainFor_of_name (by decide)) (Nat.le_of_ble_eq_true rfl) ?_
  intro p e s m below meth c ls F hr hlocks hW hl
  have E : qa_E p m c b_MD_size 4 s _ "VotedFramesModel" y := ⟨F, hW.2⟩
  have hC : qa_C y v s s.heap [] := ⟨hW.1, va_S.rf⟩
  have hx := F.1
  have hb := F.2.1
  have hown : s.vm.findClass "VotedFramesModel" = some m.cls := F.2.2.2.1
  have hts := F.2.2.2.2
  have hn4 : 4 ≤ qa_n y := E.2.1.2.2.1
  have hn7 : qa_n y ≤ 7 := E.2.1.2.2.2.1
  have hl : lv_has ls 4 [(0, .ref (qa_a y 22 0)), (1, .int (nI i))] := hl
  have loop : ∀ (d k : Nat) (ls : Array Slot), k + d = qa_n y → lv_has ls 4 [(3, .int (nI k)), (2, .int (nI (qm_pc k (v 28 0 i)))), (0, .ref (qa_a y 22 0)), (1, .int (nI i))] → W p l e (qa_R 1) s m [.ref (qa_a y 22 0), .int (nI i)].toArray below meth c s.heap [] 0 0 (MQ below (QcRead (nI (qm_pc (qa_n y) (v 28 0 i)))) [.ref (qa_a y 22 0), .int (nI i)].toArray s 0 0 (fun _ => False)) (F0 m 4 ls []) := by
    intro d
    induction d with
    | zero =>
      intro k ls hkd hl
      obtain rfl : qa_n y = k := by omega
      refine lv_iload_n hx hb d_MD_size_4 rfl (lv_at hl 0 rfl) ?_
      refine lv_aload_n hx hb d_MD_size_5 rfl (lv_at hl 2 rfl) ?_
      refine qa_get (k := 22) (i := 0) (f := 0) (val := .int (nI (qa_n y))) E hC Nat.one_pos rfl rfl (by decide) f_MD_73 rfl rfl d_MD_size_6 ?_
      refine lv_icmp_ge hx hb d_MD_size_9 rfl (fun _ => ?_) (fun h9 => absurd (nI_le (Nat.le_refl _) (by omega)) h9)
      refine lv_iload_n hx hb d_MD_size_35 rfl (lv_at hl 1 rfl) ?_
      exact qa_iret hx hb hr hlocks rfl d_MD_size_36
    | succ d ih =>
      intro k ls hkd hl
      have hk : k < qa_n y := by omega
      refine lv_iload_n hx hb d_MD_size_4 rfl (lv_at hl 0 rfl) ?_
      refine lv_aload_n hx hb d_MD_size_5 rfl (lv_at hl 2 rfl) ?_
      refine qa_get (k := 22) (i := 0) (f := 0) (val := .int (nI (qa_n y))) E hC Nat.one_pos rfl rfl (by decide) f_MD_73 rfl rfl d_MD_size_6 ?_
      refine lv_icmp_ge hx hb d_MD_size_9 rfl (fun h9 => absurd h9 (nI_ge hk (by omega))) (fun _ => ?_)
      refine lv_aload_n hx hb d_MD_size_12 rfl (lv_at hl 2 rfl) ?_
      refine lv_iload_n hx hb d_MD_size_13 rfl (lv_at hl 3 rfl) ?_
      refine lv_iload_n hx hb d_MD_size_14 rfl (lv_at hl 0 rfl) ?_
      refine qa_pV (k := 22) (i := 0) (As := [.int (nI i), .int (nI k)]) E hC (c_MD_member l y v i (nI k) hi) Nat.one_pos rfl rfl k_MD_90 (qa_fitR (by decide) (by decide)) rfl hl.1 rfl (Nat.le_of_ble_eq_true rfl) d_MD_size_15 ?_
      refine lv_if_eq hx hb d_MD_size_18 rfl (fun h18 => ?_) (fun h18 => ?_)
      · refine lv_iload_n hx hb d_MD_size_27 rfl (lv_at hl 1 rfl) ?_
        refine lv_istore_n hx hb d_MD_size_28 rfl hl (by decide) rfl (fun ls hl => ?_)
        have hl : lv_has ls 4 [(2, .int (nI (qm_pc k (v 28 0 i)))), (3, .int (nI k)), (0, .ref (qa_a y 22 0)), (1, .int (nI i))] := hl
        refine lv_iinc (v := nI (k + 1)) hx hb d_MD_size_29 hl (k := 1) rfl (nI_1 k) (by decide) rfl (fun ls hl => ?_)
        have hl : lv_has ls 4 [(3, .int (nI (k + 1))), (2, .int (nI (qm_pc k (v 28 0 i)))), (0, .ref (qa_a y 22 0)), (1, .int (nI i))] := hl
        refine lv_goto hx hb d_MD_size_32 rfl ?_
        have e5 : qm_pc (k + 1) (v 28 0 i) = qm_pc k (v 28 0 i) := qm_pc_f (qb_e0 h18)
        refine ih (k + 1) ls (by omega) ?_
        rw [e5]
        exact lv_sub hl [0, 1, 2, 3] rfl
      · refine lv_iload_n hx hb d_MD_size_21 rfl (lv_at hl 1 rfl) ?_
        refine lv_iconst (v := 1) hx hb d_MD_size_22 (by decide) ?_
        refine lv_iadd hx hb d_MD_size_23 ?_
        refine lv_goto hx hb d_MD_size_24 rfl ?_
        refine lv_istore_n hx hb d_MD_size_28 rfl hl (by decide) rfl (fun ls hl => ?_)
        have hl : lv_has ls 4 [(2, .int ((nI (qm_pc k (v 28 0 i))) + 1)), (3, .int (nI k)), (0, .ref (qa_a y 22 0)), (1, .int (nI i))] := hl
        refine lv_iinc (v := nI (k + 1)) hx hb d_MD_size_29 hl (k := 1) rfl (nI_1 k) (by decide) rfl (fun ls hl => ?_)
        have hl : lv_has ls 4 [(3, .int (nI (k + 1))), (2, .int ((nI (qm_pc k (v 28 0 i))) + 1)), (0, .ref (qa_a y 22 0)), (1, .int (nI i))] := hl
        refine lv_goto hx hb d_MD_size_32 rfl ?_
        have e5 : qm_pc (k + 1) (v 28 0 i) = qm_pc k (v 28 0 i) + 1 := qm_pc_t (qb_n0 h18)
        refine ih (k + 1) ls (by omega) ?_
        rw [e5]
        rw [← nI_1 (qm_pc k (v 28 0 i))]
        exact lv_sub hl [0, 1, 2, 3] rfl
  refine lv_iconst (v := 0) hx hb d_MD_size_0 (by decide) ?_
  refine lv_istore_n hx hb d_MD_size_1 rfl hl (by decide) rfl (fun ls hl => ?_)
  have hl : lv_has ls 4 [(2, .int 0), (0, .ref (qa_a y 22 0)), (1, .int (nI i))] := hl
  refine lv_iconst (v := 0) hx hb d_MD_size_2 (by decide) ?_
  refine lv_istore_n hx hb d_MD_size_3 rfl hl (by decide) rfl (fun ls hl => ?_)
  have hl : lv_has ls 4 [(3, .int 0), (2, .int 0), (0, .ref (qa_a y 22 0)), (1, .int (nI i))] := hl
  exact loop (qa_n y) 0 ls (by omega) (lv_sub hl [0, 1, 2, 3] rfl)
