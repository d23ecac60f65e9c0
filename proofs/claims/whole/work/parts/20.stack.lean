set_option maxHeartbeats 4000000 in
set_option maxRecDepth 100000 in
theorem c_SM_needs (l : Launch) (op : Int32) : qa_Pu l y_SM_needs b_SM_needs 1 (some .int) 0 [.int op] (fun _ => True) (qm_nee op) := by
  refine qa_ofPu (plainFor_of_name (by decide)) (Nat.le_of_ble_eq_true rfl) ?_
  intro p e s m below meth c ls F hr hlocks _ hl
  have hx := F.1
  have hb := F.2.1
  have hown : s.vm.findClass "VotedFrames$StackMachine" = some m.cls := F.2.2.2.1
  have hts := F.2.2.2.2
  have hl : lv_has ls 1 [(0, .int op)] := hl
  refine lv_iload_n hx hb d_SM_needs_0 rfl (lv_at hl 0 rfl) ?_
  refine lv_iconst (v := 3) hx hb d_SM_needs_1 (by decide) ?_
  refine lv_icmp_lt hx hb d_SM_needs_2 rfl (fun h2 => ?_) (fun h2 => ?_)
  · refine lv_iload_n hx hb d_SM_needs_13 rfl (lv_at hl 0 rfl) ?_
    refine lv_bipush (v := 8) hx hb d_SM_needs_14 (by decide) ?_
    refine lv_icmp_eq hx hb d_SM_needs_16 rfl (fun h16 => ?_) (fun h16 => ?_)
    · refine lv_iconst (v := 1) hx hb d_SM_needs_25 (by decide) ?_
      refine lv_goto hx hb d_SM_needs_26 rfl ?_
      exact qa_iret hx hb hr hlocks (by unfold qm_nee; rw [if_pos (Or.inl h2), if_pos (Or.inl h16)]) d_SM_needs_30
    · refine lv_iload_n hx hb d_SM_needs_19 rfl (lv_at hl 0 rfl) ?_
      refine lv_bipush (v := 9) hx hb d_SM_needs_20 (by decide) ?_
      refine lv_icmp_ne hx hb d_SM_needs_22 rfl (fun h22 => ?_) (fun h22 => ?_)
      · refine lv_iconst (v := 0) hx hb d_SM_needs_29 (by decide) ?_
        exact qa_iret hx hb hr hlocks (by unfold qm_nee; rw [if_pos (Or.inl h2), if_neg (fun z => z.elim h16 h22)]) d_SM_needs_30
      · refine lv_iconst (v := 1) hx hb d_SM_needs_25 (by decide) ?_
        refine lv_goto hx hb d_SM_needs_26 rfl ?_
        exact qa_iret hx hb hr hlocks (by unfold qm_nee; rw [if_pos (Or.inl h2), if_pos (Or.inr h22)]) d_SM_needs_30
  · refine lv_iload_n hx hb d_SM_needs_5 rfl (lv_at hl 0 rfl) ?_
    refine lv_bipush (v := 7) hx hb d_SM_needs_6 (by decide) ?_
    refine lv_icmp_gt hx hb d_SM_needs_8 rfl (fun h8 => ?_) (fun h8 => ?_)
    · refine lv_iload_n hx hb d_SM_needs_13 rfl (lv_at hl 0 rfl) ?_
      refine lv_bipush (v := 8) hx hb d_SM_needs_14 (by decide) ?_
      refine lv_icmp_eq hx hb d_SM_needs_16 rfl (fun h16 => ?_) (fun h16 => ?_)
      · refine lv_iconst (v := 1) hx hb d_SM_needs_25 (by decide) ?_
        refine lv_goto hx hb d_SM_needs_26 rfl ?_
        exact qa_iret hx hb hr hlocks (by unfold qm_nee; rw [if_pos (Or.inr h8), if_pos (Or.inl h16)]) d_SM_needs_30
      · refine lv_iload_n hx hb d_SM_needs_19 rfl (lv_at hl 0 rfl) ?_
        refine lv_bipush (v := 9) hx hb d_SM_needs_20 (by decide) ?_
        refine lv_icmp_ne hx hb d_SM_needs_22 rfl (fun h22 => ?_) (fun h22 => ?_)
        · refine lv_iconst (v := 0) hx hb d_SM_needs_29 (by decide) ?_
          exact qa_iret hx hb hr hlocks (by unfold qm_nee; rw [if_pos (Or.inr h8), if_neg (fun z => z.elim h16 h22)]) d_SM_needs_30
        · refine lv_iconst (v := 1) hx hb d_SM_needs_25 (by decide) ?_
          refine lv_goto hx hb d_SM_needs_26 rfl ?_
          exact qa_iret hx hb hr hlocks (by unfold qm_nee; rw [if_pos (Or.inr h8), if_pos (Or.inr h22)]) d_SM_needs_30
    · refine lv_iconst (v := 2) hx hb d_SM_needs_11 (by decide) ?_
      exact qa_iret hx hb hr hlocks (by unfold qm_nee; rw [if_neg (fun z => z.elim h2 h8)]) d_SM_needs_12

set_option maxHeartbeats 4000000 in
set_option maxRecDepth 100000 in
theorem c_SM_combine (l : Launch) (op a b : Int32) : qa_Pu l y_SM_combine b_SM_combine 3 (some .int) 1 [.int op, .int a, .int b] (fun _ => True) (qm_two op a b) := by
  refine qa_ofPu (plainFor_of_name (by decide)) (Nat.le_of_ble_eq_true rfl) ?_
  intro p e s m below meth c ls F hr hlocks _ hl
  have hx := F.1
  have hb := F.2.1
  have hown : s.vm.findClass "VotedFrames$StackMachine" = some m.cls := F.2.2.2.1
  have hts := F.2.2.2.2
  have hl : lv_has ls 3 [(0, .int op), (1, .int a), (2, .int b)] := hl
  refine lv_iload_n hx hb d_SM_combine_0 rfl (lv_at hl 0 rfl) ?_
  rcases qm_sw36 op with k1 | k1 | k1 | k1 | k1
  · refine lv_tableIn (off := 31) (tgt := 32) hx hb d_SM_combine_1 (by rw [k1]; decide) (by rw [k1]; decide) (by rw [k1]; rfl) rfl ?_
    refine lv_iload_n hx hb d_SM_combine_32 rfl (lv_at hl 1 rfl) ?_
    refine lv_iload_n hx hb d_SM_combine_33 rfl (lv_at hl 2 rfl) ?_
    refine lv_iadd hx hb d_SM_combine_34 ?_
    exact qa_iret hx hb hr hlocks (by unfold qm_two; rw [if_pos k1]) d_SM_combine_35
  · refine lv_tableIn (off := 35) (tgt := 36) hx hb d_SM_combine_1 (by rw [k1]; decide) (by rw [k1]; decide) (by rw [k1]; rfl) rfl ?_
    refine lv_iload_n hx hb d_SM_combine_36 rfl (lv_at hl 1 rfl) ?_
    refine lv_iload_n hx hb d_SM_combine_37 rfl (lv_at hl 2 rfl) ?_
    refine lv_isub hx hb d_SM_combine_38 ?_
    exact qa_iret hx hb hr hlocks (by unfold qm_two; rw [if_neg (by rw [k1]; decide), if_pos k1]) d_SM_combine_39
  · refine lv_tableIn (off := 39) (tgt := 40) hx hb d_SM_combine_1 (by rw [k1]; decide) (by rw [k1]; decide) (by rw [k1]; rfl) rfl ?_
    refine lv_iload_n hx hb d_SM_combine_40 rfl (lv_at hl 1 rfl) ?_
    refine lv_iload_n hx hb d_SM_combine_41 rfl (lv_at hl 2 rfl) ?_
    refine lv_imul hx hb d_SM_combine_42 ?_
    exact qa_iret hx hb hr hlocks (by unfold qm_two; rw [if_neg (by rw [k1]; decide), if_neg (by rw [k1]; decide), if_pos k1]) d_SM_combine_43
  · refine lv_tableIn (off := 43) (tgt := 44) hx hb d_SM_combine_1 (by rw [k1]; decide) (by rw [k1]; decide) (by rw [k1]; rfl) rfl ?_
    refine lv_iload_n hx hb d_SM_combine_44 rfl (lv_at hl 2 rfl) ?_
    refine lv_if_ne hx hb d_SM_combine_45 rfl (fun h45 => ?_) (fun h45 => ?_)
    · refine lv_iload_n hx hb d_SM_combine_53 rfl (lv_at hl 1 rfl) ?_
      refine lv_iload_n hx hb d_SM_combine_54 rfl (lv_at hl 2 rfl) ?_
      refine qa_pT (As := [.int a, .int b]) F (c_JM_floorDiv l a b h45) k_SM_56 (qa_fitR (by decide) (by decide)) rfl hl.1 rfl (Nat.le_of_ble_eq_true rfl) d_SM_combine_55 ?_
      exact qa_iret hx hb hr hlocks (by unfold qm_two; rw [if_neg (by rw [k1]; decide), if_neg (by rw [k1]; decide), if_neg (by rw [k1]; decide), if_pos k1, if_neg h45]) d_SM_combine_58
    · refine lv_ldc (v := -1000000003) hx hb hown (hts _ k_SM_54) d_SM_combine_48 ?_
      refine lv_goto hx hb d_SM_combine_50 rfl ?_
      exact qa_iret hx hb hr hlocks (by unfold qm_two; rw [if_neg (by rw [k1]; decide), if_neg (by rw [k1]; decide), if_neg (by rw [k1]; decide), if_pos k1, if_pos h45]) d_SM_combine_58
  · refine lv_tableOut (tgt := 59) hx hb d_SM_combine_1 k1 rfl ?_
    refine lv_iload_n hx hb d_SM_combine_59 rfl (lv_at hl 1 rfl) ?_
    refine lv_iload_n hx hb d_SM_combine_60 rfl (lv_at hl 2 rfl) ?_
    refine lv_icmp_ge hx hb d_SM_combine_61 rfl (fun h61 => ?_) (fun h61 => ?_)
    · refine lv_iconst (v := 0) hx hb d_SM_combine_68 (by decide) ?_
      exact qa_iret hx hb hr hlocks (by unfold qm_two; rw [if_neg (qm_out_ne k1 (by decide) (by decide)), if_neg (qm_out_ne k1 (by decide) (by decide)), if_neg (qm_out_ne k1 (by decide) (by decide)), if_neg (qm_out_ne k1 (by decide) (by decide)), if_neg (qm_nlt2 h61)]) d_SM_combine_69
    · refine lv_iconst (v := 1) hx hb d_SM_combine_64 (by decide) ?_
      refine lv_goto hx hb d_SM_combine_65 rfl ?_
      exact qa_iret hx hb hr hlocks (by unfold qm_two; rw [if_neg (qm_out_ne k1 (by decide) (by decide)), if_neg (qm_out_ne k1 (by decide) (by decide)), if_neg (qm_out_ne k1 (by decide) (by decide)), if_neg (qm_out_ne k1 (by decide) (by decide)), if_pos (qm_lt h61)]) d_SM_combine_69

set_option maxHeartbeats 4000000 in
set_option maxRecDepth 100000 in
theorem c_SM_push (l : Launch) (y : qa_L) (v : qa_M) (D : Nat) (x : Int32) (hD : v 16 0 1 = nI D) (hD6 : D < 6) : qa_Mv l y_SM_push b_SM_push 2 0 [.ref (qa_a y 16 0), .int x] y v (fun u => u = qa_up (qa_up v 17 0 D x) 16 0 1 (nI (D + 1))) := by
  refine qa_ofMv (plainFor_of_name (by decide)) (Nat.le_of_ble_eq_true rfl) ?_
  intro p e s m below meth c ls E hr hlocks hC hl
  have E : qa_E p m c b_SM_push 2 s _ "VotedFrames$StackMachine" y := E
  have F := E.1
  have hx := F.1
  have hb := F.2.1
  have hown : s.vm.findClass "VotedFrames$StackMachine" = some m.cls := F.2.2.2.1
  have hts := F.2.2.2.2
  have hn4 : 4 ≤ qa_n y := E.2.1.2.2.1
  have hn7 : qa_n y ≤ 7 := E.2.1.2.2.2.1
  have hl : lv_has ls 2 [(0, .ref (qa_a y 16 0)), (1, .int x)] := hl
  refine lv_aload_n hx hb d_SM_push_0 rfl (lv_at hl 0 rfl) ?_
  refine qa_get (k := 16) (i := 0) (f := 0) (val := .ref (qa_a y 17 0)) E hC Nat.one_pos rfl rfl (by decide) f_SM_11 rfl rfl d_SM_push_1 ?_
  refine lv_aload_n hx hb d_SM_push_4 rfl (lv_at hl 0 rfl) ?_
  refine qa_get (k := 16) (i := 0) (f := 1) (val := .int (v 16 0 1)) E hC Nat.one_pos rfl rfl (by decide) f_SM_15 rfl rfl d_SM_push_5 ?_
  refine lv_iload_n hx hb d_SM_push_8 rfl (lv_at hl 1 rfl) ?_
  refine qa_ist (k := 17) (i := 0) (j := D) E hC Nat.one_pos rfl rfl hD hD6 d_SM_push_9 (fun H locs hC => ?_)
  refine lv_aload_n hx hb d_SM_push_10 rfl (lv_at hl 0 rfl) ?_
  refine lv_dup hx hb d_SM_push_11 rfl ?_
  refine qa_get (k := 16) (i := 0) (f := 1) (val := .int ((qa_up v 17 0 D x) 16 0 1)) E hC Nat.one_pos rfl rfl (by decide) f_SM_15 rfl rfl d_SM_push_12 ?_
  refine lv_iconst (v := 1) hx hb d_SM_push_15 (by decide) ?_
  refine lv_iadd hx hb d_SM_push_16 ?_
  refine qa_put (k := 16) (i := 0) (f := 1) E hC Nat.one_pos rfl rfl (by decide) f_SM_15 rfl rfl rfl rfl d_SM_push_17 (fun H locs hC => ?_)
  exact qa_mvret E hC hr hlocks (by rw [qa_up_k (by decide), hD, nI_1]) d_SM_push_20

set_option maxHeartbeats 4000000 in
set_option maxRecDepth 100000 in
theorem c_SM_pop (l : Launch) (y : qa_L) (v : qa_M) (D : Nat) (hD : v 16 0 1 = nI (D + 1)) (hD6 : D < 6) : qa_Mi l y_SM_pop b_SM_pop 1 (some .int) 0 [.ref (qa_a y 16 0)] y v (fun r u => r = v 17 0 D ∧ u = qa_up v 16 0 1 (nI D)) := by
  refine qa_ofMi (plainFor_of_name (by decide)) (Nat.le_of_ble_eq_true rfl) ?_
  intro p e s m below meth c ls E hr hlocks hC hl
  have E : qa_E p m c b_SM_pop 1 s _ "VotedFrames$StackMachine" y := E
  have F := E.1
  have hx := F.1
  have hb := F.2.1
  have hown : s.vm.findClass "VotedFrames$StackMachine" = some m.cls := F.2.2.2.1
  have hts := F.2.2.2.2
  have hn4 : 4 ≤ qa_n y := E.2.1.2.2.1
  have hn7 : qa_n y ≤ 7 := E.2.1.2.2.2.1
  have hl : lv_has ls 1 [(0, .ref (qa_a y 16 0))] := hl
  have e1 : v 16 0 1 - 1 = nI D := by rw [hD, nI_pred]
  refine lv_aload_n hx hb d_SM_pop_0 rfl (lv_at hl 0 rfl) ?_
  refine lv_dup hx hb d_SM_pop_1 rfl ?_
  refine qa_get (k := 16) (i := 0) (f := 1) (val := .int (v 16 0 1)) E hC Nat.one_pos rfl rfl (by decide) f_SM_15 rfl rfl d_SM_pop_2 ?_
  refine lv_iconst (v := 1) hx hb d_SM_pop_5 (by decide) ?_
  refine lv_isub hx hb d_SM_pop_6 ?_
  rw [e1]
  refine qa_put (k := 16) (i := 0) (f := 1) E hC Nat.one_pos rfl rfl (by decide) f_SM_15 rfl rfl rfl rfl d_SM_pop_7 (fun H locs hC => ?_)
  refine lv_aload_n hx hb d_SM_pop_10 rfl (lv_at hl 0 rfl) ?_
  refine qa_get (k := 16) (i := 0) (f := 0) (val := .ref (qa_a y 17 0)) E hC Nat.one_pos rfl rfl (by decide) f_SM_11 rfl rfl d_SM_pop_11 ?_
  refine lv_aload_n hx hb d_SM_pop_14 rfl (lv_at hl 0 rfl) ?_
  refine qa_get (k := 16) (i := 0) (f := 1) (val := .int ((qa_up v 16 0 1 (nI D)) 16 0 1)) E hC Nat.one_pos rfl rfl (by decide) f_SM_15 rfl rfl d_SM_pop_15 ?_
  refine qa_ild (k := 17) (i := 0) (j := D) E hC Nat.one_pos rfl rfl qa_up_s hD6 d_SM_pop_18 ?_
  exact qa_mret E hC hr hlocks ⟨by rw [qa_up_k (by decide)], rfl⟩ d_SM_pop_19

set_option maxHeartbeats 4000000 in
set_option maxRecDepth 100000 in
theorem c_SM_refusalOf (l : Launch) (y : qa_L) (v : qa_M) (op : Int32) (D : Nat) (hD : v 16 0 1 = nI D) (hD6 : D ≤ 6) : qa_Pu l y_SM_refusalOf b_SM_refusalOf 3 (some .int) 1 [.ref (qa_a y 16 0), .int op] (qa_W y v) (qm_rf op D (v 17 0 (D - 1))) := by
  refine qa_ofPu (plainFor_of_name (by decide)) (Nat.le_of_ble_eq_true rfl) ?_
  intro p e s m below meth c ls F hr hlocks hW hl
  have E : qa_E p m c b_SM_refusalOf 3 s _ "VotedFrames$StackMachine" y := ⟨F, hW.2⟩
  have hC : qa_C y v s s.heap [] := ⟨hW.1, va_S.rf⟩
  have hx := F.1
  have hb := F.2.1
  have hown : s.vm.findClass "VotedFrames$StackMachine" = some m.cls := F.2.2.2.1
  have hts := F.2.2.2.2
  have hn4 : 4 ≤ qa_n y := E.2.1.2.2.1
  have hn7 : qa_n y ≤ 7 := E.2.1.2.2.2.1
  have hl : lv_has ls 3 [(0, .ref (qa_a y 16 0)), (1, .int op)] := hl
  have e1 : op = 6 → ¬ nI D < qm_nee op → v 16 0 1 - 1 = nI (D - 1) ∧ D - 1 < 6 := by
    intro h6 hq
    have hd : 2 ≤ D := by
      have e : qm_nee op = nI 2 := by rw [h6]; decide
      rw [e, nI_ltI (by omega) (by omega)] at hq
      omega
    refine ⟨?_, by omega⟩
    rw [hD, show D = (D - 1) + 1 by omega, nI_pred]
    rfl
  refine lv_aload_n hx hb d_SM_refusalOf_0 rfl (lv_at hl 0 rfl) ?_
  refine qa_get (k := 16) (i := 0) (f := 1) (val := .int (v 16 0 1)) E hC Nat.one_pos rfl rfl (by decide) f_SM_15 rfl rfl d_SM_refusalOf_1 ?_
  refine lv_iload_n hx hb d_SM_refusalOf_4 rfl (lv_at hl 1 rfl) ?_
  refine qa_pT (As := [.int op]) F (c_SM_needs l op) k_SM_51 (qa_fitR (by decide) (by decide)) rfl hl.1 rfl (Nat.le_of_ble_eq_true rfl) d_SM_refusalOf_5 ?_
  refine lv_icmp_ge hx hb d_SM_refusalOf_8 rfl (fun h8 => ?_) (fun h8 => ?_)
  · refine lv_iload_n hx hb d_SM_refusalOf_14 rfl (lv_at hl 1 rfl) ?_
    refine lv_bipush (v := 6) hx hb d_SM_refusalOf_15 (by decide) ?_
    refine lv_icmp_ne hx hb d_SM_refusalOf_17 rfl (fun h17 => ?_) (fun h17 => ?_)
    · refine lv_iload_n hx hb d_SM_refusalOf_37 rfl (lv_at hl 1 rfl) ?_
      refine lv_iconst (v := 2) hx hb d_SM_refusalOf_38 (by decide) ?_
      refine lv_icmp_le hx hb d_SM_refusalOf_39 rfl (fun h39 => ?_) (fun h39 => ?_)
      · refine lv_iconst (v := 1) hx hb d_SM_refusalOf_48 (by decide) ?_
        refine lv_goto hx hb d_SM_refusalOf_49 rfl ?_
        refine lv_istore_n hx hb d_SM_refusalOf_53 rfl hl (by decide) rfl (fun ls hl => ?_)
        have hl : lv_has ls 3 [(2, .int 1), (0, .ref (qa_a y 16 0)), (1, .int op)] := hl
        refine lv_iload_n hx hb d_SM_refusalOf_54 rfl (lv_at hl 0 rfl) ?_
        refine lv_if_eq hx hb d_SM_refusalOf_55 rfl (fun h9 => absurd h9 (by decide)) (fun _ => ?_)
        refine lv_aload_n hx hb d_SM_refusalOf_58 rfl (lv_at hl 1 rfl) ?_
        refine qa_get (k := 16) (i := 0) (f := 1) (val := .int (v 16 0 1)) E hC Nat.one_pos rfl rfl (by decide) f_SM_15 rfl rfl d_SM_refusalOf_59 ?_
        refine lv_bipush (v := 6) hx hb d_SM_refusalOf_62 (by decide) ?_
        refine lv_icmp_lt hx hb d_SM_refusalOf_64 rfl (fun h64 => ?_) (fun h64 => ?_)
        · refine lv_iconst (v := 0) hx hb d_SM_refusalOf_72 (by decide) ?_
          exact qa_iret hx hb hr hlocks (by unfold qm_rf; rw [if_neg (by rw [← hD]; exact fun z => qm_nle z h8), if_neg (fun z => h17 z.1), if_neg (by rw [← hD]; exact fun z => qm_nle h64 z.2)]) d_SM_refusalOf_73
        · refine lv_ldc (v := -1000000002) hx hb hown (hts _ k_SM_55) d_SM_refusalOf_67 ?_
          refine lv_goto hx hb d_SM_refusalOf_69 rfl ?_
          exact qa_iret hx hb hr hlocks (by unfold qm_rf; rw [if_neg (by rw [← hD]; exact fun z => qm_nle z h8), if_neg (fun z => h17 z.1), if_pos ⟨Or.inl h39, by rw [← hD]; exact qm_nlt h64⟩]) d_SM_refusalOf_73
      · refine lv_iload_n hx hb d_SM_refusalOf_42 rfl (lv_at hl 1 rfl) ?_
        refine lv_bipush (v := 9) hx hb d_SM_refusalOf_43 (by decide) ?_
        refine lv_icmp_ne hx hb d_SM_refusalOf_45 rfl (fun h45 => ?_) (fun h45 => ?_)
        · refine lv_iconst (v := 0) hx hb d_SM_refusalOf_52 (by decide) ?_
          refine lv_istore_n hx hb d_SM_refusalOf_53 rfl hl (by decide) rfl (fun ls hl => ?_)
          have hl : lv_has ls 3 [(2, .int 0), (0, .ref (qa_a y 16 0)), (1, .int op)] := hl
          refine lv_iload_n hx hb d_SM_refusalOf_54 rfl (lv_at hl 0 rfl) ?_
          refine lv_if_eq hx hb d_SM_refusalOf_55 rfl (fun _ => ?_) (fun h9 => absurd rfl h9)
          refine lv_iconst (v := 0) hx hb d_SM_refusalOf_72 (by decide) ?_
          exact qa_iret hx hb hr hlocks (by unfold qm_rf; rw [if_neg (by rw [← hD]; exact fun z => qm_nle z h8), if_neg (fun z => h17 z.1), if_neg (fun z => z.1.elim h39 h45)]) d_SM_refusalOf_73
        · refine lv_iconst (v := 1) hx hb d_SM_refusalOf_48 (by decide) ?_
          refine lv_goto hx hb d_SM_refusalOf_49 rfl ?_
          refine lv_istore_n hx hb d_SM_refusalOf_53 rfl hl (by decide) rfl (fun ls hl => ?_)
          have hl : lv_has ls 3 [(2, .int 1), (0, .ref (qa_a y 16 0)), (1, .int op)] := hl
          refine lv_iload_n hx hb d_SM_refusalOf_54 rfl (lv_at hl 0 rfl) ?_
          refine lv_if_eq hx hb d_SM_refusalOf_55 rfl (fun h9 => absurd h9 (by decide)) (fun _ => ?_)
          refine lv_aload_n hx hb d_SM_refusalOf_58 rfl (lv_at hl 1 rfl) ?_
          refine qa_get (k := 16) (i := 0) (f := 1) (val := .int (v 16 0 1)) E hC Nat.one_pos rfl rfl (by decide) f_SM_15 rfl rfl d_SM_refusalOf_59 ?_
          refine lv_bipush (v := 6) hx hb d_SM_refusalOf_62 (by decide) ?_
          refine lv_icmp_lt hx hb d_SM_refusalOf_64 rfl (fun h64 => ?_) (fun h64 => ?_)
          · refine lv_iconst (v := 0) hx hb d_SM_refusalOf_72 (by decide) ?_
            exact qa_iret hx hb hr hlocks (by unfold qm_rf; rw [if_neg (by rw [← hD]; exact fun z => qm_nle z h8), if_neg (fun z => h17 z.1), if_neg (by rw [← hD]; exact fun z => qm_nle h64 z.2)]) d_SM_refusalOf_73
          · refine lv_ldc (v := -1000000002) hx hb hown (hts _ k_SM_55) d_SM_refusalOf_67 ?_
            refine lv_goto hx hb d_SM_refusalOf_69 rfl ?_
            exact qa_iret hx hb hr hlocks (by unfold qm_rf; rw [if_neg (by rw [← hD]; exact fun z => qm_nle z h8), if_neg (fun z => h17 z.1), if_pos ⟨Or.inr h45, by rw [← hD]; exact qm_nlt h64⟩]) d_SM_refusalOf_73
    · obtain ⟨e2, e3⟩ := e1 h17 (by rw [← hD]; exact fun z => qm_nle z h8)
      refine lv_aload_n hx hb d_SM_refusalOf_20 rfl (lv_at hl 0 rfl) ?_
      refine qa_get (k := 16) (i := 0) (f := 0) (val := .ref (qa_a y 17 0)) E hC Nat.one_pos rfl rfl (by decide) f_SM_11 rfl rfl d_SM_refusalOf_21 ?_
      refine lv_aload_n hx hb d_SM_refusalOf_24 rfl (lv_at hl 0 rfl) ?_
      refine qa_get (k := 16) (i := 0) (f := 1) (val := .int (v 16 0 1)) E hC Nat.one_pos rfl rfl (by decide) f_SM_15 rfl rfl d_SM_refusalOf_25 ?_
      refine lv_iconst (v := 1) hx hb d_SM_refusalOf_28 (by decide) ?_
      refine lv_isub hx hb d_SM_refusalOf_29 ?_
      refine qa_ild (k := 17) (i := 0) (j := (D - 1)) E hC Nat.one_pos rfl rfl e2 e3 d_SM_refusalOf_30 ?_
      refine lv_if_ne hx hb d_SM_refusalOf_31 rfl (fun h31 => ?_) (fun h31 => ?_)
      · refine lv_iload_n hx hb d_SM_refusalOf_37 rfl (lv_at hl 1 rfl) ?_
        refine lv_iconst (v := 2) hx hb d_SM_refusalOf_38 (by decide) ?_
        refine lv_icmp_le hx hb d_SM_refusalOf_39 rfl (fun h39 => ?_) (fun h39 => ?_)
        · refine lv_iconst (v := 1) hx hb d_SM_refusalOf_48 (by decide) ?_
          refine lv_goto hx hb d_SM_refusalOf_49 rfl ?_
          refine lv_istore_n hx hb d_SM_refusalOf_53 rfl hl (by decide) rfl (fun ls hl => ?_)
          have hl : lv_has ls 3 [(2, .int 1), (0, .ref (qa_a y 16 0)), (1, .int op)] := hl
          refine lv_iload_n hx hb d_SM_refusalOf_54 rfl (lv_at hl 0 rfl) ?_
          refine lv_if_eq hx hb d_SM_refusalOf_55 rfl (fun h9 => absurd h9 (by decide)) (fun _ => ?_)
          refine lv_aload_n hx hb d_SM_refusalOf_58 rfl (lv_at hl 1 rfl) ?_
          refine qa_get (k := 16) (i := 0) (f := 1) (val := .int (v 16 0 1)) E hC Nat.one_pos rfl rfl (by decide) f_SM_15 rfl rfl d_SM_refusalOf_59 ?_
          refine lv_bipush (v := 6) hx hb d_SM_refusalOf_62 (by decide) ?_
          refine lv_icmp_lt hx hb d_SM_refusalOf_64 rfl (fun h64 => ?_) (fun h64 => ?_)
          · refine lv_iconst (v := 0) hx hb d_SM_refusalOf_72 (by decide) ?_
            exact qa_iret hx hb hr hlocks (by unfold qm_rf; rw [if_neg (by rw [← hD]; exact fun z => qm_nle z h8), if_neg (fun z => h31 z.2), if_neg (by rw [← hD]; exact fun z => qm_nle h64 z.2)]) d_SM_refusalOf_73
          · refine lv_ldc (v := -1000000002) hx hb hown (hts _ k_SM_55) d_SM_refusalOf_67 ?_
            refine lv_goto hx hb d_SM_refusalOf_69 rfl ?_
            exact qa_iret hx hb hr hlocks (by unfold qm_rf; rw [if_neg (by rw [← hD]; exact fun z => qm_nle z h8), if_neg (fun z => h31 z.2), if_pos ⟨Or.inl h39, by rw [← hD]; exact qm_nlt h64⟩]) d_SM_refusalOf_73
        · refine lv_iload_n hx hb d_SM_refusalOf_42 rfl (lv_at hl 1 rfl) ?_
          refine lv_bipush (v := 9) hx hb d_SM_refusalOf_43 (by decide) ?_
          refine lv_icmp_ne hx hb d_SM_refusalOf_45 rfl (fun h45 => ?_) (fun h45 => ?_)
          · refine lv_iconst (v := 0) hx hb d_SM_refusalOf_52 (by decide) ?_
            refine lv_istore_n hx hb d_SM_refusalOf_53 rfl hl (by decide) rfl (fun ls hl => ?_)
            have hl : lv_has ls 3 [(2, .int 0), (0, .ref (qa_a y 16 0)), (1, .int op)] := hl
            refine lv_iload_n hx hb d_SM_refusalOf_54 rfl (lv_at hl 0 rfl) ?_
            refine lv_if_eq hx hb d_SM_refusalOf_55 rfl (fun _ => ?_) (fun h9 => absurd rfl h9)
            refine lv_iconst (v := 0) hx hb d_SM_refusalOf_72 (by decide) ?_
            exact qa_iret hx hb hr hlocks (by unfold qm_rf; rw [if_neg (by rw [← hD]; exact fun z => qm_nle z h8), if_neg (fun z => h31 z.2), if_neg (fun z => z.1.elim h39 h45)]) d_SM_refusalOf_73
          · refine lv_iconst (v := 1) hx hb d_SM_refusalOf_48 (by decide) ?_
            refine lv_goto hx hb d_SM_refusalOf_49 rfl ?_
            refine lv_istore_n hx hb d_SM_refusalOf_53 rfl hl (by decide) rfl (fun ls hl => ?_)
            have hl : lv_has ls 3 [(2, .int 1), (0, .ref (qa_a y 16 0)), (1, .int op)] := hl
            refine lv_iload_n hx hb d_SM_refusalOf_54 rfl (lv_at hl 0 rfl) ?_
            refine lv_if_eq hx hb d_SM_refusalOf_55 rfl (fun h9 => absurd h9 (by decide)) (fun _ => ?_)
            refine lv_aload_n hx hb d_SM_refusalOf_58 rfl (lv_at hl 1 rfl) ?_
            refine qa_get (k := 16) (i := 0) (f := 1) (val := .int (v 16 0 1)) E hC Nat.one_pos rfl rfl (by decide) f_SM_15 rfl rfl d_SM_refusalOf_59 ?_
            refine lv_bipush (v := 6) hx hb d_SM_refusalOf_62 (by decide) ?_
            refine lv_icmp_lt hx hb d_SM_refusalOf_64 rfl (fun h64 => ?_) (fun h64 => ?_)
            · refine lv_iconst (v := 0) hx hb d_SM_refusalOf_72 (by decide) ?_
              exact qa_iret hx hb hr hlocks (by unfold qm_rf; rw [if_neg (by rw [← hD]; exact fun z => qm_nle z h8), if_neg (fun z => h31 z.2), if_neg (by rw [← hD]; exact fun z => qm_nle h64 z.2)]) d_SM_refusalOf_73
            · refine lv_ldc (v := -1000000002) hx hb hown (hts _ k_SM_55) d_SM_refusalOf_67 ?_
              refine lv_goto hx hb d_SM_refusalOf_69 rfl ?_
              exact qa_iret hx hb hr hlocks (by unfold qm_rf; rw [if_neg (by rw [← hD]; exact fun z => qm_nle z h8), if_neg (fun z => h31 z.2), if_pos ⟨Or.inr h45, by rw [← hD]; exact qm_nlt h64⟩]) d_SM_refusalOf_73
      · refine lv_ldc (v := -1000000003) hx hb hown (hts _ k_SM_54) d_SM_refusalOf_34 ?_
        exact qa_iret hx hb hr hlocks (by unfold qm_rf; rw [if_neg (by rw [← hD]; exact fun z => qm_nle z h8), if_pos ⟨h17, h31⟩]) d_SM_refusalOf_36
  · refine lv_ldc (v := -1000000001) hx hb hown (hts _ k_SM_50) d_SM_refusalOf_11 ?_
    exact qa_iret hx hb hr hlocks (by unfold qm_rf; rw [if_pos (by rw [← hD]; exact qm_lt h8)]) d_SM_refusalOf_13

set_option maxHeartbeats 4000000 in
set_option maxRecDepth 100000 in
theorem c_SM_fetch_5_7 (l : Launch) (y : qa_L) (v : qa_M) (i : Nat) (op x : Int32) (D : Nat) (hi : i < qa_n y) (hok : qm_iok (qa_n y) op x) (hD : v 16 0 1 = nI D) (hD6 : D ≤ 6) (h9 : op = 9 → 1 ≤ D) : qa_Pu l y_SM_fetch b_SM_fetch 5 (some .int) 0 [.ref (qa_a y 16 0), .int op, .int x, .ref (qa_a y 5 i), .ref (qa_a y 7 i)] (qa_W y v) (qm_fe op x (v 5 i) (v 7 i) (v 17 0 (D - 1))) := by
  refine qa_ofPu (plainFor_of_name (by decide)) (Nat.le_of_ble_eq_true rfl) ?_
  intro p e s m below meth c ls F hr hlocks hW hl
  have E : qa_E p m c b_SM_fetch 5 s _ "VotedFrames$StackMachine" y := ⟨F, hW.2⟩
  have hC : qa_C y v s s.heap [] := ⟨hW.1, va_S.rf⟩
  have hx := F.1
  have hb := F.2.1
  have hown : s.vm.findClass "VotedFrames$StackMachine" = some m.cls := F.2.2.2.1
  have hts := F.2.2.2.2
  have hn4 : 4 ≤ qa_n y := E.2.1.2.2.1
  have hn7 : qa_n y ≤ 7 := E.2.1.2.2.2.1
  have hl : lv_has ls 5 [(0, .ref (qa_a y 16 0)), (1, .int op), (2, .int x), (3, .ref (qa_a y 5 i)), (4, .ref (qa_a y 7 i))] := hl
  refine lv_iload_n hx hb d_SM_fetch_0 rfl (lv_at hl 1 rfl) ?_
  by_cases k1 : op = 1
  · refine lv_lookup (off := 35) (tgt := 36) hx hb d_SM_fetch_1 rfl (by rw [k1]; rfl) rfl ?_
    obtain ⟨j, hj, e5⟩ := hok.2.1 k1
    refine lv_aload_n hx hb d_SM_fetch_36 rfl (lv_at hl 3 rfl) ?_
    refine lv_iload_n hx hb d_SM_fetch_37 rfl (lv_at hl 2 rfl) ?_
    refine qa_ild (k := 5) (i := i) (j := j) E hC hi rfl rfl e5 hj d_SM_fetch_38 ?_
    exact qa_iret hx hb hr hlocks (by unfold qm_fe; rw [if_pos k1, e5, qm_ix_n (by omega)]) d_SM_fetch_39
  by_cases k2 : op = 2
  · refine lv_lookup (off := 39) (tgt := 40) hx hb d_SM_fetch_1 rfl (by rw [k2]; rfl) rfl ?_
    obtain ⟨j, hj, e5⟩ := hok.2.2.1 k2
    refine lv_aload hx hb d_SM_fetch_40 (lv_at hl 4 rfl) ?_
    refine lv_iload_n hx hb d_SM_fetch_42 rfl (lv_at hl 2 rfl) ?_
    refine qa_ild (k := 7) (i := i) (j := j) E hC hi rfl rfl e5 hj d_SM_fetch_43 ?_
    exact qa_iret hx hb hr hlocks (by unfold qm_fe; rw [if_neg k1, if_pos k2, e5, qm_ix_n (by omega)]) d_SM_fetch_44
  by_cases k9 : op = 9
  · refine lv_lookup (off := 44) (tgt := 45) hx hb d_SM_fetch_1 rfl (by rw [k9]; rfl) rfl ?_
    have e6 := h9 k9
    have e5 : v 16 0 1 - 1 = nI (D - 1) := by rw [hD, show D = (D - 1) + 1 by omega, nI_pred]; rfl
    refine lv_aload_n hx hb d_SM_fetch_45 rfl (lv_at hl 0 rfl) ?_
    refine qa_get (k := 16) (i := 0) (f := 0) (val := .ref (qa_a y 17 0)) E hC Nat.one_pos rfl rfl (by decide) f_SM_11 rfl rfl d_SM_fetch_46 ?_
    refine lv_aload_n hx hb d_SM_fetch_49 rfl (lv_at hl 0 rfl) ?_
    refine qa_get (k := 16) (i := 0) (f := 1) (val := .int (v 16 0 1)) E hC Nat.one_pos rfl rfl (by decide) f_SM_15 rfl rfl d_SM_fetch_50 ?_
    refine lv_iconst (v := 1) hx hb d_SM_fetch_53 (by decide) ?_
    refine lv_isub hx hb d_SM_fetch_54 ?_
    refine qa_ild (k := 17) (i := 0) (j := (D - 1)) E hC Nat.one_pos rfl rfl e5 (show D - 1 < 6 by omega) d_SM_fetch_55 ?_
    exact qa_iret hx hb hr hlocks (by unfold qm_fe; rw [if_neg k1, if_neg k2, if_pos k9]) d_SM_fetch_56
  refine lv_lookup (off := 56) (tgt := 57) hx hb d_SM_fetch_1 rfl (show Op.lookupswitch.offset [(1, 35), (2, 39), (9, 44)] 56 _ = 56 from ((lv_osw k1 rfl).trans ((lv_osw k2 rfl).trans ((lv_osw k9 rfl).trans rfl)))) rfl ?_
  refine lv_iload_n hx hb d_SM_fetch_57 rfl (lv_at hl 2 rfl) ?_
  exact qa_iret hx hb hr hlocks (by unfold qm_fe; rw [if_neg k1, if_neg k2, if_neg k9]) d_SM_fetch_58

set_option maxHeartbeats 4000000 in
set_option maxRecDepth 100000 in
theorem c_SM_fetch_5_18 (l : Launch) (y : qa_L) (v : qa_M) (i : Nat) (op x : Int32) (D : Nat) (hi : i < qa_n y) (hok : qm_iok (qa_n y) op x) (hD : v 16 0 1 = nI D) (hD6 : D ≤ 6) (h9 : op = 9 → 1 ≤ D) : qa_Pu l y_SM_fetch b_SM_fetch 5 (some .int) 0 [.ref (qa_a y 16 0), .int op, .int x, .ref (qa_a y 5 i), .ref (qa_a y 18 0)] (qa_W y v) (qm_fe op x (v 5 i) (v 18 0) (v 17 0 (D - 1))) := by
  refine qa_ofPu (plainFor_of_name (by decide)) (Nat.le_of_ble_eq_true rfl) ?_
  intro p e s m below meth c ls F hr hlocks hW hl
  have E : qa_E p m c b_SM_fetch 5 s _ "VotedFrames$StackMachine" y := ⟨F, hW.2⟩
  have hC : qa_C y v s s.heap [] := ⟨hW.1, va_S.rf⟩
  have hx := F.1
  have hb := F.2.1
  have hown : s.vm.findClass "VotedFrames$StackMachine" = some m.cls := F.2.2.2.1
  have hts := F.2.2.2.2
  have hn4 : 4 ≤ qa_n y := E.2.1.2.2.1
  have hn7 : qa_n y ≤ 7 := E.2.1.2.2.2.1
  have hl : lv_has ls 5 [(0, .ref (qa_a y 16 0)), (1, .int op), (2, .int x), (3, .ref (qa_a y 5 i)), (4, .ref (qa_a y 18 0))] := hl
  refine lv_iload_n hx hb d_SM_fetch_0 rfl (lv_at hl 1 rfl) ?_
  by_cases k1 : op = 1
  · refine lv_lookup (off := 35) (tgt := 36) hx hb d_SM_fetch_1 rfl (by rw [k1]; rfl) rfl ?_
    obtain ⟨j, hj, e5⟩ := hok.2.1 k1
    refine lv_aload_n hx hb d_SM_fetch_36 rfl (lv_at hl 3 rfl) ?_
    refine lv_iload_n hx hb d_SM_fetch_37 rfl (lv_at hl 2 rfl) ?_
    refine qa_ild (k := 5) (i := i) (j := j) E hC hi rfl rfl e5 hj d_SM_fetch_38 ?_
    exact qa_iret hx hb hr hlocks (by unfold qm_fe; rw [if_pos k1, e5, qm_ix_n (by omega)]) d_SM_fetch_39
  by_cases k2 : op = 2
  · refine lv_lookup (off := 39) (tgt := 40) hx hb d_SM_fetch_1 rfl (by rw [k2]; rfl) rfl ?_
    obtain ⟨j, hj, e5⟩ := hok.2.2.1 k2
    refine lv_aload hx hb d_SM_fetch_40 (lv_at hl 4 rfl) ?_
    refine lv_iload_n hx hb d_SM_fetch_42 rfl (lv_at hl 2 rfl) ?_
    refine qa_ild (k := 18) (i := 0) (j := j) E hC Nat.one_pos rfl rfl e5 hj d_SM_fetch_43 ?_
    exact qa_iret hx hb hr hlocks (by unfold qm_fe; rw [if_neg k1, if_pos k2, e5, qm_ix_n (by omega)]) d_SM_fetch_44
  by_cases k9 : op = 9
  · refine lv_lookup (off := 44) (tgt := 45) hx hb d_SM_fetch_1 rfl (by rw [k9]; rfl) rfl ?_
    have e6 := h9 k9
    have e5 : v 16 0 1 - 1 = nI (D - 1) := by rw [hD, show D = (D - 1) + 1 by omega, nI_pred]; rfl
    refine lv_aload_n hx hb d_SM_fetch_45 rfl (lv_at hl 0 rfl) ?_
    refine qa_get (k := 16) (i := 0) (f := 0) (val := .ref (qa_a y 17 0)) E hC Nat.one_pos rfl rfl (by decide) f_SM_11 rfl rfl d_SM_fetch_46 ?_
    refine lv_aload_n hx hb d_SM_fetch_49 rfl (lv_at hl 0 rfl) ?_
    refine qa_get (k := 16) (i := 0) (f := 1) (val := .int (v 16 0 1)) E hC Nat.one_pos rfl rfl (by decide) f_SM_15 rfl rfl d_SM_fetch_50 ?_
    refine lv_iconst (v := 1) hx hb d_SM_fetch_53 (by decide) ?_
    refine lv_isub hx hb d_SM_fetch_54 ?_
    refine qa_ild (k := 17) (i := 0) (j := (D - 1)) E hC Nat.one_pos rfl rfl e5 (show D - 1 < 6 by omega) d_SM_fetch_55 ?_
    exact qa_iret hx hb hr hlocks (by unfold qm_fe; rw [if_neg k1, if_neg k2, if_pos k9]) d_SM_fetch_56
  refine lv_lookup (off := 56) (tgt := 57) hx hb d_SM_fetch_1 rfl (show Op.lookupswitch.offset [(1, 35), (2, 39), (9, 44)] 56 _ = 56 from ((lv_osw k1 rfl).trans ((lv_osw k2 rfl).trans ((lv_osw k9 rfl).trans rfl)))) rfl ?_
  refine lv_iload_n hx hb d_SM_fetch_57 rfl (lv_at hl 2 rfl) ?_
  exact qa_iret hx hb hr hlocks (by unfold qm_fe; rw [if_neg k1, if_neg k2, if_neg k9]) d_SM_fetch_58

set_option maxHeartbeats 4000000 in
set_option maxRecDepth 100000 in
theorem c_SM_fetch_19_18 (l : Launch) (y : qa_L) (v : qa_M) (op x : Int32) (D : Nat) (hok : qm_iok (qa_n y) op x) (hD : v 16 0 1 = nI D) (hD6 : D ≤ 6) (h9 : op = 9 → 1 ≤ D) : qa_Pu l y_SM_fetch b_SM_fetch 5 (some .int) 0 [.ref (qa_a y 16 0), .int op, .int x, .ref (qa_a y 19 0), .ref (qa_a y 18 0)] (qa_W y v) (qm_fe op x (v 19 0) (v 18 0) (v 17 0 (D - 1))) := by
  refine qa_ofPu (plainFor_of_name (by decide)) (Nat.le_of_ble_eq_true rfl) ?_
  intro p e s m below meth c ls F hr hlocks hW hl
  have E : qa_E p m c b_SM_fetch 5 s _ "VotedFrames$StackMachine" y := ⟨F, hW.2⟩
  have hC : qa_C y v s s.heap [] := ⟨hW.1, va_S.rf⟩
  have hx := F.1
  have hb := F.2.1
  have hown : s.vm.findClass "VotedFrames$StackMachine" = some m.cls := F.2.2.2.1
  have hts := F.2.2.2.2
  have hn4 : 4 ≤ qa_n y := E.2.1.2.2.1
  have hn7 : qa_n y ≤ 7 := E.2.1.2.2.2.1
  have hl : lv_has ls 5 [(0, .ref (qa_a y 16 0)), (1, .int op), (2, .int x), (3, .ref (qa_a y 19 0)), (4, .ref (qa_a y 18 0))] := hl
  refine lv_iload_n hx hb d_SM_fetch_0 rfl (lv_at hl 1 rfl) ?_
  by_cases k1 : op = 1
  · refine lv_lookup (off := 35) (tgt := 36) hx hb d_SM_fetch_1 rfl (by rw [k1]; rfl) rfl ?_
    obtain ⟨j, hj, e5⟩ := hok.2.1 k1
    refine lv_aload_n hx hb d_SM_fetch_36 rfl (lv_at hl 3 rfl) ?_
    refine lv_iload_n hx hb d_SM_fetch_37 rfl (lv_at hl 2 rfl) ?_
    refine qa_ild (k := 19) (i := 0) (j := j) E hC Nat.one_pos rfl rfl e5 hj d_SM_fetch_38 ?_
    exact qa_iret hx hb hr hlocks (by unfold qm_fe; rw [if_pos k1, e5, qm_ix_n (by omega)]) d_SM_fetch_39
  by_cases k2 : op = 2
  · refine lv_lookup (off := 39) (tgt := 40) hx hb d_SM_fetch_1 rfl (by rw [k2]; rfl) rfl ?_
    obtain ⟨j, hj, e5⟩ := hok.2.2.1 k2
    refine lv_aload hx hb d_SM_fetch_40 (lv_at hl 4 rfl) ?_
    refine lv_iload_n hx hb d_SM_fetch_42 rfl (lv_at hl 2 rfl) ?_
    refine qa_ild (k := 18) (i := 0) (j := j) E hC Nat.one_pos rfl rfl e5 hj d_SM_fetch_43 ?_
    exact qa_iret hx hb hr hlocks (by unfold qm_fe; rw [if_neg k1, if_pos k2, e5, qm_ix_n (by omega)]) d_SM_fetch_44
  by_cases k9 : op = 9
  · refine lv_lookup (off := 44) (tgt := 45) hx hb d_SM_fetch_1 rfl (by rw [k9]; rfl) rfl ?_
    have e6 := h9 k9
    have e5 : v 16 0 1 - 1 = nI (D - 1) := by rw [hD, show D = (D - 1) + 1 by omega, nI_pred]; rfl
    refine lv_aload_n hx hb d_SM_fetch_45 rfl (lv_at hl 0 rfl) ?_
    refine qa_get (k := 16) (i := 0) (f := 0) (val := .ref (qa_a y 17 0)) E hC Nat.one_pos rfl rfl (by decide) f_SM_11 rfl rfl d_SM_fetch_46 ?_
    refine lv_aload_n hx hb d_SM_fetch_49 rfl (lv_at hl 0 rfl) ?_
    refine qa_get (k := 16) (i := 0) (f := 1) (val := .int (v 16 0 1)) E hC Nat.one_pos rfl rfl (by decide) f_SM_15 rfl rfl d_SM_fetch_50 ?_
    refine lv_iconst (v := 1) hx hb d_SM_fetch_53 (by decide) ?_
    refine lv_isub hx hb d_SM_fetch_54 ?_
    refine qa_ild (k := 17) (i := 0) (j := (D - 1)) E hC Nat.one_pos rfl rfl e5 (show D - 1 < 6 by omega) d_SM_fetch_55 ?_
    exact qa_iret hx hb hr hlocks (by unfold qm_fe; rw [if_neg k1, if_neg k2, if_pos k9]) d_SM_fetch_56
  refine lv_lookup (off := 56) (tgt := 57) hx hb d_SM_fetch_1 rfl (show Op.lookupswitch.offset [(1, 35), (2, 39), (9, 44)] 56 _ = 56 from ((lv_osw k1 rfl).trans ((lv_osw k2 rfl).trans ((lv_osw k9 rfl).trans rfl)))) rfl ?_
  refine lv_iload_n hx hb d_SM_fetch_57 rfl (lv_at hl 2 rfl) ?_
  exact qa_iret hx hb hr hlocks (by unfold qm_fe; rw [if_neg k1, if_neg k2, if_neg k9]) d_SM_fetch_58

set_option maxHeartbeats 4000000 in
set_option maxRecDepth 100000 in
theorem c_SM_resultOf_5_7 (l : Launch) (y : qa_L) (v : qa_M) (t L : Nat) (i : Nat) (ht : t < 4) (hL : v 13 t 2 = nI L) (hL12 : L ≤ 12) (hP : ∀ z, z < L → qm_iok (qa_n y) (v 14 t z) (v 15 t z)) (hi : i < qa_n y) : qa_Mi l y_SM_resultOf b_SM_resultOf 11 (some .int) 2 [.ref (qa_a y 16 0), .ref (qa_a y 13 t), .ref (qa_a y 5 i), .ref (qa_a y 7 i)] y v (fun r u => r = qm_ex (v 14 t) (v 15 t) (v 5 i) (v 7 i) L 0 0 [] ∧ ∀ k, k ≠ 16 → k ≠ 17 → u k = v k) := by
  refine qa_ofMi (plainFor_of_name (by decide)) (Nat.le_of_ble_eq_true rfl) ?_
  intro p e s m below meth c ls E hr hlocks hC hl
  have E : qa_E p m c b_SM_resultOf 11 s _ "VotedFrames$StackMachine" y := E
  have F := E.1
  have hx := F.1
  have hb := F.2.1
  have hown : s.vm.findClass "VotedFrames$StackMachine" = some m.cls := F.2.2.2.1
  have hts := F.2.2.2.2
  have hn4 : 4 ≤ qa_n y := E.2.1.2.2.1
  have hn7 : qa_n y ≤ 7 := E.2.1.2.2.2.1
  have hl : lv_has ls 11 [(0, .ref (qa_a y 16 0)), (1, .ref (qa_a y 13 t)), (2, .ref (qa_a y 5 i)), (3, .ref (qa_a y 7 i))] := hl
  have loop : ∀ (d z : Nat) (u : qa_M) (H : Heap) (locs : List Loc) (kk : Nat) (stk : List Int32) (ls : Array Slot), z + d = L → qa_C y u s H locs → (stk.length ≤ 6 ∧ u 16 0 1 = nI stk.length ∧ qm_st (u 17 0) stk ∧ (∀ k, k ≠ 16 → k ≠ 17 → u k = v k) ∧ kk ≤ 11 ∧ qm_ex (v 14 t) (v 15 t) (v 5 i) (v 7 i) (L - z) z kk stk = qm_ex (v 14 t) (v 15 t) (v 5 i) (v 7 i) L 0 0 []) → lv_has ls 11 [(5, .int (nI z)), (4, .int (nI kk)), (0, .ref (qa_a y 16 0)), (1, .ref (qa_a y 13 t)), (2, .ref (qa_a y 5 i)), (3, .ref (qa_a y 7 i))] → W p l e (qa_R 2) s m [.ref (qa_a y 16 0), .ref (qa_a y 13 t), .ref (qa_a y 5 i), .ref (qa_a y 7 i)].toArray below meth c H locs 0 0 (MQ below (va_Qi (fun r u => r = qm_ex (v 14 t) (v 15 t) (v 5 i) (v 7 i) L 0 0 [] ∧ ∀ k, k ≠ 16 → k ≠ 17 → u k = v k) (fun u t => qa_W y u t) (qa_A y)) [.ref (qa_a y 16 0), .ref (qa_a y 13 t), .ref (qa_a y 5 i), .ref (qa_a y 7 i)].toArray s 0 0 (qa_A y)) (F0 m 11 ls []) := by
    intro d
    induction d with
    | zero =>
      intro z u H locs kk stk ls hkd hC hI hl
      obtain rfl : L = z := by omega
      obtain ⟨i1, i2, i3, i4, i5, i6⟩ := hI
      have hq : u 13 t 2 = nI L := by rw [i4 13 (by decide) (by decide)]; exact hL
      cases stk with
      | nil =>
        have e8 : (-1000000001 : Int32) = qm_ex (v 14 t) (v 15 t) (v 5 i) (v 7 i) 0 L kk [] := by unfold qm_ex; rfl
        refine lv_iload hx hb d_SM_resultOf_11 (lv_at hl 0 rfl) ?_
        refine lv_aload_n hx hb d_SM_resultOf_13 rfl (lv_at hl 3 rfl) ?_
        refine qa_get (k := 13) (i := t) (f := 2) (val := .int (u 13 t 2)) E hC ht rfl rfl (by decide) f_SM_19 rfl rfl d_SM_resultOf_14 ?_
        refine lv_icmp_ge hx hb d_SM_resultOf_17 rfl (fun _ => ?_) (fun h9 => absurd (by rw [hq]; exact nI_le (Nat.le_refl _) (by omega)) h9)
        refine lv_aload_n hx hb d_SM_resultOf_151 rfl (lv_at hl 2 rfl) ?_
        refine qa_get (k := 16) (i := 0) (f := 1) (val := .int (u 16 0 1)) E hC Nat.one_pos rfl rfl (by decide) f_SM_15 rfl rfl d_SM_resultOf_152 ?_
        refine lv_if_ne hx hb d_SM_resultOf_155 rfl (fun h9 => absurd i2 h9) (fun _ => ?_)
        refine lv_ldc (v := -1000000001) hx hb hown (hts _ k_SM_50) d_SM_resultOf_158 ?_
        refine lv_goto hx hb d_SM_resultOf_160 rfl ?_
        exact qa_mret E hC hr hlocks ⟨by rw [← i6, Nat.sub_self]; exact e8, i4⟩ d_SM_resultOf_174
      | cons b r =>
        have e7 : u 16 0 1 - 1 = nI r.length := by rw [i2, List.length_cons, nI_pred]
        have e8 : u 17 0 r.length = qm_ex (v 14 t) (v 15 t) (v 5 i) (v 7 i) 0 L kk (b :: r) := by unfold qm_ex; exact i3.1
        have e6 : r.length < 6 := by simp at i1; omega
        refine lv_iload hx hb d_SM_resultOf_11 (lv_at hl 0 rfl) ?_
        refine lv_aload_n hx hb d_SM_resultOf_13 rfl (lv_at hl 3 rfl) ?_
        refine qa_get (k := 13) (i := t) (f := 2) (val := .int (u 13 t 2)) E hC ht rfl rfl (by decide) f_SM_19 rfl rfl d_SM_resultOf_14 ?_
        refine lv_icmp_ge hx hb d_SM_resultOf_17 rfl (fun _ => ?_) (fun h9 => absurd (by rw [hq]; exact nI_le (Nat.le_refl _) (by omega)) h9)
        refine lv_aload_n hx hb d_SM_resultOf_151 rfl (lv_at hl 2 rfl) ?_
        refine qa_get (k := 16) (i := 0) (f := 1) (val := .int (u 16 0 1)) E hC Nat.one_pos rfl rfl (by decide) f_SM_15 rfl rfl d_SM_resultOf_152 ?_
        refine lv_if_ne hx hb d_SM_resultOf_155 rfl (fun _ => ?_) (fun h9 => absurd h9 (by rw [i2]; exact nI_ne0 (by simp) (by omega)))
        refine lv_aload_n hx hb d_SM_resultOf_163 rfl (lv_at hl 2 rfl) ?_
        refine qa_get (k := 16) (i := 0) (f := 0) (val := .ref (qa_a y 17 0)) E hC Nat.one_pos rfl rfl (by decide) f_SM_11 rfl rfl d_SM_resultOf_164 ?_
        refine lv_aload_n hx hb d_SM_resultOf_167 rfl (lv_at hl 2 rfl) ?_
        refine qa_get (k := 16) (i := 0) (f := 1) (val := .int (u 16 0 1)) E hC Nat.one_pos rfl rfl (by decide) f_SM_15 rfl rfl d_SM_resultOf_168 ?_
        refine lv_iconst (v := 1) hx hb d_SM_resultOf_171 (by decide) ?_
        refine lv_isub hx hb d_SM_resultOf_172 ?_
        refine qa_ild (k := 17) (i := 0) (j := r.length) E hC Nat.one_pos rfl rfl e7 e6 d_SM_resultOf_173 ?_
        exact qa_mret E hC hr hlocks ⟨by rw [← i6, Nat.sub_self]; exact e8, i4⟩ d_SM_resultOf_174
    | succ d ih =>
      intro z u H locs kk stk ls hkd hC hI hl
      have hz : z < L := by omega
      obtain ⟨i1, i2, i3, i4, i5, i6⟩ := hI
      have hq : u 13 t 2 = nI L := by rw [i4 13 (by decide) (by decide)]; exact hL
      have hz12 : z < 12 := by omega
      refine lv_iload hx hb d_SM_resultOf_11 (lv_at hl 0 rfl) ?_
      refine lv_aload_n hx hb d_SM_resultOf_13 rfl (lv_at hl 3 rfl) ?_
      refine qa_get (k := 13) (i := t) (f := 2) (val := .int (u 13 t 2)) E hC ht rfl rfl (by decide) f_SM_19 rfl rfl d_SM_resultOf_14 ?_
      refine lv_icmp_ge hx hb d_SM_resultOf_17 rfl (fun h9 => absurd h9 (by rw [hq]; exact nI_ge hz (by omega))) (fun _ => ?_)
      refine lv_iload hx hb d_SM_resultOf_20 (lv_at hl 1 rfl) ?_
      refine lv_if_le hx hb d_SM_resultOf_22 rfl (fun h22 => ?_) (fun h22 => ?_)
      · obtain rfl : kk = 0 := by
          rcases kk with _ | q
          · rfl
          · exact absurd h22 (nI_nle (by omega) (by omega))
        have hl : lv_has ls 11 [(5, .int (nI z)), (4, .int (nI 0)), (0, .ref (qa_a y 16 0)), (1, .ref (qa_a y 13 t)), (2, .ref (qa_a y 5 i)), (3, .ref (qa_a y 7 i))] := hl
        have o1 : u 14 t = v 14 t := by rw [i4 14 (by decide) (by decide)]
        have o2 : u 15 t = v 15 t := by rw [i4 15 (by decide) (by decide)]
        have hok : qm_iok (qa_n y) (u 14 t z) (u 15 t z) := by rw [o1, o2]; exact hP z hz
        have o3 : u 5 = v 5 := i4 5 (by decide) (by decide)
        have o4 : u 7 = v 7 := i4 7 (by decide) (by decide)
        have htop : stk.length ≠ 0 → u 17 0 (stk.length - 1) = stk.headD 0 := by
          intro hne
          cases stk with
          | nil => exact absurd rfl hne
          | cons b r => exact i3.1
        refine lv_aload_n hx hb d_SM_resultOf_31 rfl (lv_at hl 3 rfl) ?_
        refine qa_get (k := 13) (i := t) (f := 0) (val := .ref (qa_a y 14 t)) E hC ht rfl rfl (by decide) f_SM_24 rfl rfl d_SM_resultOf_32 ?_
        refine lv_iload hx hb d_SM_resultOf_35 (lv_at hl 0 rfl) ?_
        refine qa_ild (k := 14) (i := t) (j := z) E hC ht rfl rfl rfl hz12 d_SM_resultOf_37 ?_
        refine lv_istore hx hb d_SM_resultOf_38 hl (by decide) rfl (fun ls hl => ?_)
        have hl : lv_has ls 11 [(6, .int (u 14 t z)), (5, .int (nI z)), (4, .int (nI 0)), (0, .ref (qa_a y 16 0)), (1, .ref (qa_a y 13 t)), (2, .ref (qa_a y 5 i)), (3, .ref (qa_a y 7 i))] := hl
        refine lv_aload_n hx hb d_SM_resultOf_40 rfl (lv_at hl 4 rfl) ?_
        refine qa_get (k := 13) (i := t) (f := 1) (val := .ref (qa_a y 15 t)) E hC ht rfl rfl (by decide) f_SM_27 rfl rfl d_SM_resultOf_41 ?_
        refine lv_iload hx hb d_SM_resultOf_44 (lv_at hl 1 rfl) ?_
        refine qa_ild (k := 15) (i := t) (j := z) E hC ht rfl rfl rfl hz12 d_SM_resultOf_46 ?_
        refine lv_istore hx hb d_SM_resultOf_47 hl (by decide) rfl (fun ls hl => ?_)
        have hl : lv_has ls 11 [(7, .int (u 15 t z)), (6, .int (u 14 t z)), (5, .int (nI z)), (4, .int (nI 0)), (0, .ref (qa_a y 16 0)), (1, .ref (qa_a y 13 t)), (2, .ref (qa_a y 5 i)), (3, .ref (qa_a y 7 i))] := hl
        refine lv_aload_n hx hb d_SM_resultOf_49 rfl (lv_at hl 4 rfl) ?_
        refine lv_iload hx hb d_SM_resultOf_50 (lv_at hl 1 rfl) ?_
        refine qa_pV (k := 16) (i := 0) (As := [.int (u 14 t z)]) E hC (c_SM_refusalOf l y u (u 14 t z) stk.length i2 i1) Nat.one_pos rfl rfl k_SM_30 (qa_fitR (by decide) (by decide)) rfl hl.1 rfl (Nat.le_of_ble_eq_true rfl) d_SM_resultOf_52 ?_
        refine lv_topi (fun rv rv9 => ?_)
        have r9 : rv = qm_rf (v 14 t z) stk.length (stk.headD 0) := by
          rw [rv9, o1]
          by_cases hne : stk.length = 0
          · cases stk with
            | nil => exact qm_rf_0 _ _ _
            | cons b r => simp at hne
          · rw [htop hne]
        refine lv_istore hx hb d_SM_resultOf_55 hl (by decide) rfl (fun ls hl => ?_)
        have hl : lv_has ls 11 [(8, .int rv), (7, .int (u 15 t z)), (6, .int (u 14 t z)), (5, .int (nI z)), (4, .int (nI 0)), (0, .ref (qa_a y 16 0)), (1, .ref (qa_a y 13 t)), (2, .ref (qa_a y 5 i)), (3, .ref (qa_a y 7 i))] := hl
        refine lv_iload hx hb d_SM_resultOf_57 (lv_at hl 0 rfl) ?_
        refine lv_if_eq hx hb d_SM_resultOf_59 rfl (fun h59 => ?_) (fun h59 => ?_)
        · have r0 : qm_rf (v 14 t z) stk.length (stk.headD 0) = 0 := by rw [← r9]; exact h59
          refine lv_iload hx hb d_SM_resultOf_65 (lv_at hl 2 rfl) ?_
          refine lv_bipush (v := 8) hx hb d_SM_resultOf_67 (by decide) ?_
          refine lv_icmp_ne hx hb d_SM_resultOf_69 rfl (fun h69 => ?_) (fun h69 => ?_)
          · refine lv_iload hx hb d_SM_resultOf_90 (lv_at hl 2 rfl) ?_
            refine lv_iconst (v := 3) hx hb d_SM_resultOf_92 (by decide) ?_
            refine lv_icmp_lt hx hb d_SM_resultOf_93 rfl (fun h93 => ?_) (fun h93 => ?_)
            · have o9 : u 14 t z ≤ 2 ∨ u 14 t z = 9 := qm_op29 hok.1 h69 (Or.inl h93)
              have d6 := qm_rf_d6 (by rw [← o1] at r0; exact r0) i1 o9
              refine lv_aload_n hx hb d_SM_resultOf_131 rfl (lv_at hl 5 rfl) ?_
              refine lv_aload_n hx hb d_SM_resultOf_132 rfl (lv_at hl 5 rfl) ?_
              refine lv_iload hx hb d_SM_resultOf_133 (lv_at hl 2 rfl) ?_
              refine lv_iload hx hb d_SM_resultOf_135 (lv_at hl 1 rfl) ?_
              refine lv_aload_n hx hb d_SM_resultOf_137 rfl (lv_at hl 7 rfl) ?_
              refine lv_aload_n hx hb d_SM_resultOf_138 rfl (lv_at hl 8 rfl) ?_
              refine qa_pV (k := 16) (i := 0) (As := [.int (u 14 t z), .int (u 15 t z), .ref (qa_a y 5 i), .ref (qa_a y 7 i)]) E hC (c_SM_fetch_5_7 l y u i (u 14 t z) (u 15 t z) stk.length hi hok i2 i1 (fun q9 => qm_rf_d1 (by rw [← o1] at r0; exact r0) i1 (Or.inr q9))) Nat.one_pos rfl rfl k_SM_46 (qa_fitR (by decide) (by decide)) rfl hl.1 rfl (Nat.le_of_ble_eq_true rfl) d_SM_resultOf_139 ?_
              refine qa_mVv (k := 16) (i := 0) (As := [.int (qm_fe (u 14 t z) (u 15 t z) (u 5 i) (u 7 i) (u 17 0 (stk.length - 1)))]) E hC (c_SM_push l y u stk.length (qm_fe (u 14 t z) (u 15 t z) (u 5 i) (u 7 i) (u 17 0 (stk.length - 1))) i2 d6) Nat.one_pos rfl rfl k_SM_42 (qa_fitR (by decide) (by decide)) rfl hl.1 rfl (Nat.le_of_ble_eq_true rfl) d_SM_resultOf_142 (fun u1 H locs hp1 hC => ?_)
              have g3 := hp1
              have f9 : qm_fe (u 14 t z) (u 15 t z) (u 5 i) (u 7 i) (u 17 0 (stk.length - 1)) = qm_fe (v 14 t z) (v 15 t z) (v 5 i) (v 7 i) (stk.headD 0) := by
                rw [o1, o2, o3, o4]
                by_cases hne : stk.length = 0
                · have n9 : ¬ v 14 t z = 9 := fun q9 => by
                    have := qm_rf_d1 r0 i1 (Or.inr q9)
                    omega
                  unfold qm_fe
                  simp only [if_neg n9]
                · rw [htop hne]
              refine lv_iinc (v := nI (z + 1)) hx hb d_SM_resultOf_145 hl (k := 3) rfl (nI_1 z) (by decide) rfl (fun ls hl => ?_)
              have hl : lv_has ls 11 [(5, .int (nI (z + 1))), (8, .int rv), (7, .int (u 15 t z)), (6, .int (u 14 t z)), (4, .int (nI 0)), (0, .ref (qa_a y 16 0)), (1, .ref (qa_a y 13 t)), (2, .ref (qa_a y 5 i)), (3, .ref (qa_a y 7 i))] := hl
              refine lv_goto hx hb d_SM_resultOf_148 rfl ?_
              exact ih (z + 1) u1 H locs 0 (qm_fe (u 14 t z) (u 15 t z) (u 5 i) (u 7 i) (u 17 0 (stk.length - 1)) :: stk) ls (by omega) hC ⟨by simp; omega, by rw [g3, qa_up_s]; rfl, ⟨by rw [g3, qa_up_kk (by decide), qa_up_s], qm_st_n i3 (fun q hq => by rw [g3, qa_up_kk (by decide), qa_up_f (by omega)])⟩, fun k h1 h2 => by rw [g3, qa_up_kk h1, qa_up_kk h2]; exact i4 k h1 h2, by omega, by rw [← i6, qm_ex_0 hz, if_neg (by rw [r0]; exact fun q9 => q9 rfl), if_neg (by rw [← o1]; exact h69), if_neg (fun q9 => q9.1 (by rw [← o1]; exact h93)), f9]⟩ (lv_sub hl [0, 4, 5, 6, 7, 8] rfl)
            · refine lv_iload hx hb d_SM_resultOf_96 (lv_at hl 2 rfl) ?_
              refine lv_bipush (v := 7) hx hb d_SM_resultOf_98 (by decide) ?_
              refine lv_icmp_gt hx hb d_SM_resultOf_100 rfl (fun h100 => ?_) (fun h100 => ?_)
              · have o9 : u 14 t z ≤ 2 ∨ u 14 t z = 9 := qm_op29 hok.1 h69 (Or.inr h100)
                have d6 := qm_rf_d6 (by rw [← o1] at r0; exact r0) i1 o9
                refine lv_aload_n hx hb d_SM_resultOf_131 rfl (lv_at hl 5 rfl) ?_
                refine lv_aload_n hx hb d_SM_resultOf_132 rfl (lv_at hl 5 rfl) ?_
                refine lv_iload hx hb d_SM_resultOf_133 (lv_at hl 2 rfl) ?_
                refine lv_iload hx hb d_SM_resultOf_135 (lv_at hl 1 rfl) ?_
                refine lv_aload_n hx hb d_SM_resultOf_137 rfl (lv_at hl 7 rfl) ?_
                refine lv_aload_n hx hb d_SM_resultOf_138 rfl (lv_at hl 8 rfl) ?_
                refine qa_pV (k := 16) (i := 0) (As := [.int (u 14 t z), .int (u 15 t z), .ref (qa_a y 5 i), .ref (qa_a y 7 i)]) E hC (c_SM_fetch_5_7 l y u i (u 14 t z) (u 15 t z) stk.length hi hok i2 i1 (fun q9 => qm_rf_d1 (by rw [← o1] at r0; exact r0) i1 (Or.inr q9))) Nat.one_pos rfl rfl k_SM_46 (qa_fitR (by decide) (by decide)) rfl hl.1 rfl (Nat.le_of_ble_eq_true rfl) d_SM_resultOf_139 ?_
                refine qa_mVv (k := 16) (i := 0) (As := [.int (qm_fe (u 14 t z) (u 15 t z) (u 5 i) (u 7 i) (u 17 0 (stk.length - 1)))]) E hC (c_SM_push l y u stk.length (qm_fe (u 14 t z) (u 15 t z) (u 5 i) (u 7 i) (u 17 0 (stk.length - 1))) i2 d6) Nat.one_pos rfl rfl k_SM_42 (qa_fitR (by decide) (by decide)) rfl hl.1 rfl (Nat.le_of_ble_eq_true rfl) d_SM_resultOf_142 (fun u2 H locs hp2 hC => ?_)
                have g3 := hp2
                have f9 : qm_fe (u 14 t z) (u 15 t z) (u 5 i) (u 7 i) (u 17 0 (stk.length - 1)) = qm_fe (v 14 t z) (v 15 t z) (v 5 i) (v 7 i) (stk.headD 0) := by
                  rw [o1, o2, o3, o4]
                  by_cases hne : stk.length = 0
                  · have n9 : ¬ v 14 t z = 9 := fun q9 => by
                      have := qm_rf_d1 r0 i1 (Or.inr q9)
                      omega
                    unfold qm_fe
                    simp only [if_neg n9]
                  · rw [htop hne]
                refine lv_iinc (v := nI (z + 1)) hx hb d_SM_resultOf_145 hl (k := 3) rfl (nI_1 z) (by decide) rfl (fun ls hl => ?_)
                have hl : lv_has ls 11 [(5, .int (nI (z + 1))), (8, .int rv), (7, .int (u 15 t z)), (6, .int (u 14 t z)), (4, .int (nI 0)), (0, .ref (qa_a y 16 0)), (1, .ref (qa_a y 13 t)), (2, .ref (qa_a y 5 i)), (3, .ref (qa_a y 7 i))] := hl
                refine lv_goto hx hb d_SM_resultOf_148 rfl ?_
                exact ih (z + 1) u2 H locs 0 (qm_fe (u 14 t z) (u 15 t z) (u 5 i) (u 7 i) (u 17 0 (stk.length - 1)) :: stk) ls (by omega) hC ⟨by simp; omega, by rw [g3, qa_up_s]; rfl, ⟨by rw [g3, qa_up_kk (by decide), qa_up_s], qm_st_n i3 (fun q hq => by rw [g3, qa_up_kk (by decide), qa_up_f (by omega)])⟩, fun k h1 h2 => by rw [g3, qa_up_kk h1, qa_up_kk h2]; exact i4 k h1 h2, by omega, by rw [← i6, qm_ex_0 hz, if_neg (by rw [r0]; exact fun q9 => q9 rfl), if_neg (by rw [← o1]; exact h69), if_neg (fun q9 => q9.2 (by rw [← o1]; exact h100)), f9]⟩ (lv_sub hl [0, 4, 5, 6, 7, 8] rfl)
              · have d2 := qm_rf_d2 r0 i1 (by rw [← o1]; exact h93) (by rw [← o1]; exact h100)
                obtain ⟨b, a, r, rfl⟩ : ∃ b a r, stk = b :: a :: r := by
                  cases stk with
                  | nil => simp at d2
                  | cons b r =>
                    cases r with
                    | nil => simp at d2
                    | cons a r => exact ⟨b, a, r, rfl⟩
                simp only [List.length_cons] at i1 i2
                refine lv_aload_n hx hb d_SM_resultOf_103 rfl (lv_at hl 5 rfl) ?_
                refine qa_mV (k := 16) (i := 0) (As := []) E hC (c_SM_pop l y u (r.length + 1) i2 (by omega)) Nat.one_pos rfl rfl k_SM_34 (qa_fitR (by decide) (by decide)) rfl hl.1 rfl (Nat.le_of_ble_eq_true rfl) d_SM_resultOf_104 (fun r3 u3 H locs hp3 hC => ?_)
                have e4 : r3 = b := hp3.1.trans i3.1
                have e3 := hp3.2
                refine lv_istore hx hb d_SM_resultOf_107 hl (by decide) rfl (fun ls hl => ?_)
                have hl : lv_has ls 11 [(9, .int r3), (8, .int rv), (7, .int (u 15 t z)), (6, .int (u 14 t z)), (5, .int (nI z)), (4, .int (nI 0)), (0, .ref (qa_a y 16 0)), (1, .ref (qa_a y 13 t)), (2, .ref (qa_a y 5 i)), (3, .ref (qa_a y 7 i))] := hl
                refine lv_aload_n hx hb d_SM_resultOf_109 rfl (lv_at hl 6 rfl) ?_
                have j2 : u3 16 0 1 = nI (r.length + 1) := by rw [e3, qa_up_s]
                refine qa_mV (k := 16) (i := 0) (As := []) E hC (c_SM_pop l y u3 r.length j2 (by omega)) Nat.one_pos rfl rfl k_SM_34 (qa_fitR (by decide) (by decide)) rfl hl.1 rfl (Nat.le_of_ble_eq_true rfl) d_SM_resultOf_110 (fun r4 u4 H locs hp4 hC => ?_)
                have f4 : r4 = a := by rw [hp4.1, e3, qa_up_k (by decide)]; exact i3.2.1
                have f3 := hp4.2
                have j3 : u4 16 0 1 = nI r.length := by rw [f3, qa_up_s]
                refine lv_istore hx hb d_SM_resultOf_113 hl (by decide) rfl (fun ls hl => ?_)
                have hl : lv_has ls 11 [(10, .int r4), (9, .int r3), (8, .int rv), (7, .int (u 15 t z)), (6, .int (u 14 t z)), (5, .int (nI z)), (4, .int (nI 0)), (0, .ref (qa_a y 16 0)), (1, .ref (qa_a y 13 t)), (2, .ref (qa_a y 5 i)), (3, .ref (qa_a y 7 i))] := hl
                refine lv_aload_n hx hb d_SM_resultOf_115 rfl (lv_at hl 7 rfl) ?_
                refine lv_iload hx hb d_SM_resultOf_116 (lv_at hl 4 rfl) ?_
                refine lv_iload hx hb d_SM_resultOf_118 (lv_at hl 0 rfl) ?_
                refine lv_iload hx hb d_SM_resultOf_120 (lv_at hl 1 rfl) ?_
                refine qa_pT (As := [.int (u 14 t z), .int r4, .int r3]) F (c_SM_combine l (u 14 t z) r4 r3) k_SM_38 (qa_fitR (by decide) (by decide)) rfl hl.1 rfl (Nat.le_of_ble_eq_true rfl) d_SM_resultOf_122 ?_
                refine qa_mVv (k := 16) (i := 0) (As := [.int (qm_two (u 14 t z) r4 r3)]) E hC (c_SM_push l y u4 r.length (qm_two (u 14 t z) r4 r3) j3 (by omega)) Nat.one_pos rfl rfl k_SM_42 (qa_fitR (by decide) (by decide)) rfl hl.1 rfl (Nat.le_of_ble_eq_true rfl) d_SM_resultOf_125 (fun u5 H locs hp5 hC => ?_)
                have g3 := hp5
                refine lv_goto hx hb d_SM_resultOf_128 rfl ?_
                refine lv_iinc (v := nI (z + 1)) hx hb d_SM_resultOf_145 hl (k := 5) rfl (nI_1 z) (by decide) rfl (fun ls hl => ?_)
                have hl : lv_has ls 11 [(5, .int (nI (z + 1))), (10, .int r4), (9, .int r3), (8, .int rv), (7, .int (u 15 t z)), (6, .int (u 14 t z)), (4, .int (nI 0)), (0, .ref (qa_a y 16 0)), (1, .ref (qa_a y 13 t)), (2, .ref (qa_a y 5 i)), (3, .ref (qa_a y 7 i))] := hl
                refine lv_goto hx hb d_SM_resultOf_148 rfl ?_
                exact ih (z + 1) u5 H locs 0 (qm_two (u 14 t z) r4 r3 :: r) ls (by omega) hC ⟨by simp; omega, by rw [g3, qa_up_s]; rfl, ⟨by rw [g3, qa_up_kk (by decide), qa_up_s], qm_st_n i3.2.2 (fun q hq => by rw [g3, qa_up_kk (by decide), qa_up_f (by omega), f3, qa_up_kk (by decide), e3, qa_up_kk (by decide)])⟩, fun k h1 h2 => by rw [g3, qa_up_kk h1, qa_up_kk h2, f3, qa_up_kk h1, e3, qa_up_kk h1]; exact i4 k h1 h2, by omega, by rw [← i6, qm_ex_0 hz, if_neg (by rw [r0]; exact fun q9 => q9 rfl), if_neg (by rw [← o1]; exact h69), if_pos ⟨by rw [← o1]; exact h93, by rw [← o1]; exact h100⟩, e4, f4, o1]; rfl⟩ (lv_sub hl [0, 6, 7, 8, 9, 10] rfl)
          · have o8 : v 14 t z = 8 := by rw [← o1]; exact h69
            have d1 := qm_rf_d1 r0 i1 (Or.inl o8)
            obtain ⟨b, r, rfl⟩ : ∃ b r, stk = b :: r := by
              cases stk with
              | nil => simp at d1
              | cons b r => exact ⟨b, r, rfl⟩
            simp only [List.length_cons] at i1 i2
            refine lv_aload_n hx hb d_SM_resultOf_72 rfl (lv_at hl 5 rfl) ?_
            refine qa_mV (k := 16) (i := 0) (As := []) E hC (c_SM_pop l y u r.length i2 (by omega)) Nat.one_pos rfl rfl k_SM_34 (qa_fitR (by decide) (by decide)) rfl hl.1 rfl (Nat.le_of_ble_eq_true rfl) d_SM_resultOf_73 (fun r6 u6 H locs hp6 hC => ?_)
            have e4 : r6 = b := hp6.1.trans i3.1
            have e3 := hp6.2
            refine lv_if_ne hx hb d_SM_resultOf_76 rfl (fun h76 => ?_) (fun h76 => ?_)
            · refine lv_iconst (v := 0) hx hb d_SM_resultOf_84 (by decide) ?_
              rw [show (0 : Int32) = nI 0 from rfl]
              refine lv_istore hx hb d_SM_resultOf_85 hl (by decide) rfl (fun ls hl => ?_)
              have hl : lv_has ls 11 [(4, .int (nI 0)), (8, .int rv), (7, .int (u 15 t z)), (6, .int (u 14 t z)), (5, .int (nI z)), (0, .ref (qa_a y 16 0)), (1, .ref (qa_a y 13 t)), (2, .ref (qa_a y 5 i)), (3, .ref (qa_a y 7 i))] := hl
              refine lv_goto hx hb d_SM_resultOf_87 rfl ?_
              refine lv_iinc (v := nI (z + 1)) hx hb d_SM_resultOf_145 hl (k := 4) rfl (nI_1 z) (by decide) rfl (fun ls hl => ?_)
              have hl : lv_has ls 11 [(5, .int (nI (z + 1))), (4, .int (nI 0)), (8, .int rv), (7, .int (u 15 t z)), (6, .int (u 14 t z)), (0, .ref (qa_a y 16 0)), (1, .ref (qa_a y 13 t)), (2, .ref (qa_a y 5 i)), (3, .ref (qa_a y 7 i))] := hl
              refine lv_goto hx hb d_SM_resultOf_148 rfl ?_
              exact ih (z + 1) u6 H locs 0 r ls (by omega) hC ⟨by omega, by rw [e3, qa_up_s], by rw [e3, qa_up_kk (by decide)]; exact i3.2, fun k h1 h2 => by rw [e3, qa_up_kk h1]; exact i4 k h1 h2, by omega, by rw [← i6, qm_ex_0 hz, if_neg (by rw [r0]; exact fun q9 => q9 rfl), if_pos o8]; rw [if_neg (show ¬ (b :: r).headD 0 = 0 from fun q9 => h76 (e4.trans q9))]; rfl⟩ (lv_sub hl [0, 1, 5, 6, 7, 8] rfl)
            · refine lv_iload hx hb d_SM_resultOf_79 (lv_at hl 1 rfl) ?_
              refine lv_goto hx hb d_SM_resultOf_81 rfl ?_
              obtain ⟨j, hj, e5⟩ := hok.2.2.2 h69
              rw [e5]
              refine lv_istore hx hb d_SM_resultOf_85 hl (by decide) rfl (fun ls hl => ?_)
              have hl : lv_has ls 11 [(4, .int (nI j)), (8, .int rv), (7, .int (u 15 t z)), (6, .int (u 14 t z)), (5, .int (nI z)), (0, .ref (qa_a y 16 0)), (1, .ref (qa_a y 13 t)), (2, .ref (qa_a y 5 i)), (3, .ref (qa_a y 7 i))] := hl
              refine lv_goto hx hb d_SM_resultOf_87 rfl ?_
              refine lv_iinc (v := nI (z + 1)) hx hb d_SM_resultOf_145 hl (k := 4) rfl (nI_1 z) (by decide) rfl (fun ls hl => ?_)
              have hl : lv_has ls 11 [(5, .int (nI (z + 1))), (4, .int (nI j)), (8, .int rv), (7, .int (u 15 t z)), (6, .int (u 14 t z)), (0, .ref (qa_a y 16 0)), (1, .ref (qa_a y 13 t)), (2, .ref (qa_a y 5 i)), (3, .ref (qa_a y 7 i))] := hl
              refine lv_goto hx hb d_SM_resultOf_148 rfl ?_
              exact ih (z + 1) u6 H locs j r ls (by omega) hC ⟨by omega, by rw [e3, qa_up_s], by rw [e3, qa_up_kk (by decide)]; exact i3.2, fun k h1 h2 => by rw [e3, qa_up_kk h1]; exact i4 k h1 h2, hj, by rw [← i6, qm_ex_0 hz, if_neg (by rw [r0]; exact fun q9 => q9 rfl), if_pos o8]; rw [if_pos (by rw [← h76]; exact e4.symm), ← o2, e5, qm_ix_n (by omega)]; rfl⟩ (lv_sub hl [0, 1, 5, 6, 7, 8] rfl)
        · refine lv_iload hx hb d_SM_resultOf_62 (lv_at hl 0 rfl) ?_
          exact qa_mret E hC hr hlocks ⟨by rw [← i6, qm_ex_0 hz, if_pos (by rw [← r9]; exact h59)]; exact r9, i4⟩ d_SM_resultOf_64
      · obtain ⟨q, rfl⟩ : ∃ q, kk = q + 1 := ⟨kk - 1, by rcases kk with _ | q; exact absurd (by decide) h22; omega⟩
        have hl : lv_has ls 11 [(5, .int (nI z)), (4, .int (nI (q + 1))), (0, .ref (qa_a y 16 0)), (1, .ref (qa_a y 13 t)), (2, .ref (qa_a y 5 i)), (3, .ref (qa_a y 7 i))] := hl
        refine lv_iinc (v := nI q) hx hb d_SM_resultOf_25 hl (k := 1) rfl (pk_m1 q) (by decide) rfl (fun ls hl => ?_)
        have hl : lv_has ls 11 [(4, .int (nI q)), (5, .int (nI z)), (0, .ref (qa_a y 16 0)), (1, .ref (qa_a y 13 t)), (2, .ref (qa_a y 5 i)), (3, .ref (qa_a y 7 i))] := hl
        refine lv_goto hx hb d_SM_resultOf_28 rfl ?_
        refine lv_iinc (v := nI (z + 1)) hx hb d_SM_resultOf_145 hl (k := 1) rfl (nI_1 z) (by decide) rfl (fun ls hl => ?_)
        have hl : lv_has ls 11 [(5, .int (nI (z + 1))), (4, .int (nI q)), (0, .ref (qa_a y 16 0)), (1, .ref (qa_a y 13 t)), (2, .ref (qa_a y 5 i)), (3, .ref (qa_a y 7 i))] := hl
        refine lv_goto hx hb d_SM_resultOf_148 rfl ?_
        exact ih (z + 1) u H locs q stk ls (by omega) hC ⟨i1, i2, i3, i4, by omega, by rw [← i6]; exact (qm_ex_s hz).symm⟩ (lv_sub hl [0, 1, 2, 3, 4, 5] rfl)
  refine lv_aload_n hx hb d_SM_resultOf_0 rfl (lv_at hl 0 rfl) ?_
  refine lv_iconst (v := 0) hx hb d_SM_resultOf_1 (by decide) ?_
  refine qa_put (k := 16) (i := 0) (f := 1) E hC Nat.one_pos rfl rfl (by decide) f_SM_15 rfl rfl rfl rfl d_SM_resultOf_2 (fun H locs hC => ?_)
  refine lv_iconst (v := 0) hx hb d_SM_resultOf_5 (by decide) ?_
  refine lv_istore hx hb d_SM_resultOf_6 hl (by decide) rfl (fun ls hl => ?_)
  have hl : lv_has ls 11 [(4, .int 0), (0, .ref (qa_a y 16 0)), (1, .ref (qa_a y 13 t)), (2, .ref (qa_a y 5 i)), (3, .ref (qa_a y 7 i))] := hl
  refine lv_iconst (v := 0) hx hb d_SM_resultOf_8 (by decide) ?_
  refine lv_istore hx hb d_SM_resultOf_9 hl (by decide) rfl (fun ls hl => ?_)
  have hl : lv_has ls 11 [(5, .int 0), (4, .int 0), (0, .ref (qa_a y 16 0)), (1, .ref (qa_a y 13 t)), (2, .ref (qa_a y 5 i)), (3, .ref (qa_a y 7 i))] := hl
  exact loop L 0 (qa_up v 16 0 1 0) H locs 0 [] ls (by omega) hC ⟨by simp, qa_up_s, trivial, fun k h1 h2 => qa_up_kk h1, by omega, by rw [Nat.sub_zero]⟩ (lv_sub hl [0, 1, 2, 3, 4, 5] rfl)

set_option maxHeartbeats 4000000 in
set_option maxRecDepth 100000 in
theorem c_SM_resultOf_5_18 (l : Launch) (y : qa_L) (v : qa_M) (t L : Nat) (i : Nat) (ht : t < 4) (hL : v 13 t 2 = nI L) (hL12 : L ≤ 12) (hP : ∀ z, z < L → qm_iok (qa_n y) (v 14 t z) (v 15 t z)) (hi : i < qa_n y) : qa_Mi l y_SM_resultOf b_SM_resultOf 11 (some .int) 2 [.ref (qa_a y 16 0), .ref (qa_a y 13 t), .ref (qa_a y 5 i), .ref (qa_a y 18 0)] y v (fun r u => r = qm_ex (v 14 t) (v 15 t) (v 5 i) (v 18 0) L 0 0 [] ∧ ∀ k, k ≠ 16 → k ≠ 17 → u k = v k) := by
  refine qa_ofMi (plainFor_of_name (by decide)) (Nat.le_of_ble_eq_true rfl) ?_
  intro p e s m below meth c ls E hr hlocks hC hl
  have E : qa_E p m c b_SM_resultOf 11 s _ "VotedFrames$StackMachine" y := E
  have F := E.1
  have hx := F.1
  have hb := F.2.1
  have hown : s.vm.findClass "VotedFrames$StackMachine" = some m.cls := F.2.2.2.1
  have hts := F.2.2.2.2
  have hn4 : 4 ≤ qa_n y := E.2.1.2.2.1
  have hn7 : qa_n y ≤ 7 := E.2.1.2.2.2.1
  have hl : lv_has ls 11 [(0, .ref (qa_a y 16 0)), (1, .ref (qa_a y 13 t)), (2, .ref (qa_a y 5 i)), (3, .ref (qa_a y 18 0))] := hl
  have loop : ∀ (d z : Nat) (u : qa_M) (H : Heap) (locs : List Loc) (kk : Nat) (stk : List Int32) (ls : Array Slot), z + d = L → qa_C y u s H locs → (stk.length ≤ 6 ∧ u 16 0 1 = nI stk.length ∧ qm_st (u 17 0) stk ∧ (∀ k, k ≠ 16 → k ≠ 17 → u k = v k) ∧ kk ≤ 11 ∧ qm_ex (v 14 t) (v 15 t) (v 5 i) (v 18 0) (L - z) z kk stk = qm_ex (v 14 t) (v 15 t) (v 5 i) (v 18 0) L 0 0 []) → lv_has ls 11 [(5, .int (nI z)), (4, .int (nI kk)), (0, .ref (qa_a y 16 0)), (1, .ref (qa_a y 13 t)), (2, .ref (qa_a y 5 i)), (3, .ref (qa_a y 18 0))] → W p l e (qa_R 2) s m [.ref (qa_a y 16 0), .ref (qa_a y 13 t), .ref (qa_a y 5 i), .ref (qa_a y 18 0)].toArray below meth c H locs 0 0 (MQ below (va_Qi (fun r u => r = qm_ex (v 14 t) (v 15 t) (v 5 i) (v 18 0) L 0 0 [] ∧ ∀ k, k ≠ 16 → k ≠ 17 → u k = v k) (fun u t => qa_W y u t) (qa_A y)) [.ref (qa_a y 16 0), .ref (qa_a y 13 t), .ref (qa_a y 5 i), .ref (qa_a y 18 0)].toArray s 0 0 (qa_A y)) (F0 m 11 ls []) := by
    intro d
    induction d with
    | zero =>
      intro z u H locs kk stk ls hkd hC hI hl
      obtain rfl : L = z := by omega
      obtain ⟨i1, i2, i3, i4, i5, i6⟩ := hI
      have hq : u 13 t 2 = nI L := by rw [i4 13 (by decide) (by decide)]; exact hL
      cases stk with
      | nil =>
        have e8 : (-1000000001 : Int32) = qm_ex (v 14 t) (v 15 t) (v 5 i) (v 18 0) 0 L kk [] := by unfold qm_ex; rfl
        refine lv_iload hx hb d_SM_resultOf_11 (lv_at hl 0 rfl) ?_
        refine lv_aload_n hx hb d_SM_resultOf_13 rfl (lv_at hl 3 rfl) ?_
        refine qa_get (k := 13) (i := t) (f := 2) (val := .int (u 13 t 2)) E hC ht rfl rfl (by decide) f_SM_19 rfl rfl d_SM_resultOf_14 ?_
        refine lv_icmp_ge hx hb d_SM_resultOf_17 rfl (fun _ => ?_) (fun h9 => absurd (by rw [hq]; exact nI_le (Nat.le_refl _) (by omega)) h9)
        refine lv_aload_n hx hb d_SM_resultOf_151 rfl (lv_at hl 2 rfl) ?_
        refine qa_get (k := 16) (i := 0) (f := 1) (val := .int (u 16 0 1)) E hC Nat.one_pos rfl rfl (by decide) f_SM_15 rfl rfl d_SM_resultOf_152 ?_
        refine lv_if_ne hx hb d_SM_resultOf_155 rfl (fun h9 => absurd i2 h9) (fun _ => ?_)
        refine lv_ldc (v := -1000000001) hx hb hown (hts _ k_SM_50) d_SM_resultOf_158 ?_
        refine lv_goto hx hb d_SM_resultOf_160 rfl ?_
        exact qa_mret E hC hr hlocks ⟨by rw [← i6, Nat.sub_self]; exact e8, i4⟩ d_SM_resultOf_174
      | cons b r =>
        have e7 : u 16 0 1 - 1 = nI r.length := by rw [i2, List.length_cons, nI_pred]
        have e8 : u 17 0 r.length = qm_ex (v 14 t) (v 15 t) (v 5 i) (v 18 0) 0 L kk (b :: r) := by unfold qm_ex; exact i3.1
        have e6 : r.length < 6 := by simp at i1; omega
        refine lv_iload hx hb d_SM_resultOf_11 (lv_at hl 0 rfl) ?_
        refine lv_aload_n hx hb d_SM_resultOf_13 rfl (lv_at hl 3 rfl) ?_
        refine qa_get (k := 13) (i := t) (f := 2) (val := .int (u 13 t 2)) E hC ht rfl rfl (by decide) f_SM_19 rfl rfl d_SM_resultOf_14 ?_
        refine lv_icmp_ge hx hb d_SM_resultOf_17 rfl (fun _ => ?_) (fun h9 => absurd (by rw [hq]; exact nI_le (Nat.le_refl _) (by omega)) h9)
        refine lv_aload_n hx hb d_SM_resultOf_151 rfl (lv_at hl 2 rfl) ?_
        refine qa_get (k := 16) (i := 0) (f := 1) (val := .int (u 16 0 1)) E hC Nat.one_pos rfl rfl (by decide) f_SM_15 rfl rfl d_SM_resultOf_152 ?_
        refine lv_if_ne hx hb d_SM_resultOf_155 rfl (fun _ => ?_) (fun h9 => absurd h9 (by rw [i2]; exact nI_ne0 (by simp) (by omega)))
        refine lv_aload_n hx hb d_SM_resultOf_163 rfl (lv_at hl 2 rfl) ?_
        refine qa_get (k := 16) (i := 0) (f := 0) (val := .ref (qa_a y 17 0)) E hC Nat.one_pos rfl rfl (by decide) f_SM_11 rfl rfl d_SM_resultOf_164 ?_
        refine lv_aload_n hx hb d_SM_resultOf_167 rfl (lv_at hl 2 rfl) ?_
        refine qa_get (k := 16) (i := 0) (f := 1) (val := .int (u 16 0 1)) E hC Nat.one_pos rfl rfl (by decide) f_SM_15 rfl rfl d_SM_resultOf_168 ?_
        refine lv_iconst (v := 1) hx hb d_SM_resultOf_171 (by decide) ?_
        refine lv_isub hx hb d_SM_resultOf_172 ?_
        refine qa_ild (k := 17) (i := 0) (j := r.length) E hC Nat.one_pos rfl rfl e7 e6 d_SM_resultOf_173 ?_
        exact qa_mret E hC hr hlocks ⟨by rw [← i6, Nat.sub_self]; exact e8, i4⟩ d_SM_resultOf_174
    | succ d ih =>
      intro z u H locs kk stk ls hkd hC hI hl
      have hz : z < L := by omega
      obtain ⟨i1, i2, i3, i4, i5, i6⟩ := hI
      have hq : u 13 t 2 = nI L := by rw [i4 13 (by decide) (by decide)]; exact hL
      have hz12 : z < 12 := by omega
      refine lv_iload hx hb d_SM_resultOf_11 (lv_at hl 0 rfl) ?_
      refine lv_aload_n hx hb d_SM_resultOf_13 rfl (lv_at hl 3 rfl) ?_
      refine qa_get (k := 13) (i := t) (f := 2) (val := .int (u 13 t 2)) E hC ht rfl rfl (by decide) f_SM_19 rfl rfl d_SM_resultOf_14 ?_
      refine lv_icmp_ge hx hb d_SM_resultOf_17 rfl (fun h9 => absurd h9 (by rw [hq]; exact nI_ge hz (by omega))) (fun _ => ?_)
      refine lv_iload hx hb d_SM_resultOf_20 (lv_at hl 1 rfl) ?_
      refine lv_if_le hx hb d_SM_resultOf_22 rfl (fun h22 => ?_) (fun h22 => ?_)
      · obtain rfl : kk = 0 := by
          rcases kk with _ | q
          · rfl
          · exact absurd h22 (nI_nle (by omega) (by omega))
        have hl : lv_has ls 11 [(5, .int (nI z)), (4, .int (nI 0)), (0, .ref (qa_a y 16 0)), (1, .ref (qa_a y 13 t)), (2, .ref (qa_a y 5 i)), (3, .ref (qa_a y 18 0))] := hl
        have o1 : u 14 t = v 14 t := by rw [i4 14 (by decide) (by decide)]
        have o2 : u 15 t = v 15 t := by rw [i4 15 (by decide) (by decide)]
        have hok : qm_iok (qa_n y) (u 14 t z) (u 15 t z) := by rw [o1, o2]; exact hP z hz
        have o3 : u 5 = v 5 := i4 5 (by decide) (by decide)
        have o4 : u 18 = v 18 := i4 18 (by decide) (by decide)
        have htop : stk.length ≠ 0 → u 17 0 (stk.length - 1) = stk.headD 0 := by
          intro hne
          cases stk with
          | nil => exact absurd rfl hne
          | cons b r => exact i3.1
        refine lv_aload_n hx hb d_SM_resultOf_31 rfl (lv_at hl 3 rfl) ?_
        refine qa_get (k := 13) (i := t) (f := 0) (val := .ref (qa_a y 14 t)) E hC ht rfl rfl (by decide) f_SM_24 rfl rfl d_SM_resultOf_32 ?_
        refine lv_iload hx hb d_SM_resultOf_35 (lv_at hl 0 rfl) ?_
        refine qa_ild (k := 14) (i := t) (j := z) E hC ht rfl rfl rfl hz12 d_SM_resultOf_37 ?_
        refine lv_istore hx hb d_SM_resultOf_38 hl (by decide) rfl (fun ls hl => ?_)
        have hl : lv_has ls 11 [(6, .int (u 14 t z)), (5, .int (nI z)), (4, .int (nI 0)), (0, .ref (qa_a y 16 0)), (1, .ref (qa_a y 13 t)), (2, .ref (qa_a y 5 i)), (3, .ref (qa_a y 18 0))] := hl
        refine lv_aload_n hx hb d_SM_resultOf_40 rfl (lv_at hl 4 rfl) ?_
        refine qa_get (k := 13) (i := t) (f := 1) (val := .ref (qa_a y 15 t)) E hC ht rfl rfl (by decide) f_SM_27 rfl rfl d_SM_resultOf_41 ?_
        refine lv_iload hx hb d_SM_resultOf_44 (lv_at hl 1 rfl) ?_
        refine qa_ild (k := 15) (i := t) (j := z) E hC ht rfl rfl rfl hz12 d_SM_resultOf_46 ?_
        refine lv_istore hx hb d_SM_resultOf_47 hl (by decide) rfl (fun ls hl => ?_)
        have hl : lv_has ls 11 [(7, .int (u 15 t z)), (6, .int (u 14 t z)), (5, .int (nI z)), (4, .int (nI 0)), (0, .ref (qa_a y 16 0)), (1, .ref (qa_a y 13 t)), (2, .ref (qa_a y 5 i)), (3, .ref (qa_a y 18 0))] := hl
        refine lv_aload_n hx hb d_SM_resultOf_49 rfl (lv_at hl 4 rfl) ?_
        refine lv_iload hx hb d_SM_resultOf_50 (lv_at hl 1 rfl) ?_
        refine qa_pV (k := 16) (i := 0) (As := [.int (u 14 t z)]) E hC (c_SM_refusalOf l y u (u 14 t z) stk.length i2 i1) Nat.one_pos rfl rfl k_SM_30 (qa_fitR (by decide) (by decide)) rfl hl.1 rfl (Nat.le_of_ble_eq_true rfl) d_SM_resultOf_52 ?_
        refine lv_topi (fun rv rv9 => ?_)
        have r9 : rv = qm_rf (v 14 t z) stk.length (stk.headD 0) := by
          rw [rv9, o1]
          by_cases hne : stk.length = 0
          · cases stk with
            | nil => exact qm_rf_0 _ _ _
            | cons b r => simp at hne
          · rw [htop hne]
        refine lv_istore hx hb d_SM_resultOf_55 hl (by decide) rfl (fun ls hl => ?_)
        have hl : lv_has ls 11 [(8, .int rv), (7, .int (u 15 t z)), (6, .int (u 14 t z)), (5, .int (nI z)), (4, .int (nI 0)), (0, .ref (qa_a y 16 0)), (1, .ref (qa_a y 13 t)), (2, .ref (qa_a y 5 i)), (3, .ref (qa_a y 18 0))] := hl
        refine lv_iload hx hb d_SM_resultOf_57 (lv_at hl 0 rfl) ?_
        refine lv_if_eq hx hb d_SM_resultOf_59 rfl (fun h59 => ?_) (fun h59 => ?_)
        · have r0 : qm_rf (v 14 t z) stk.length (stk.headD 0) = 0 := by rw [← r9]; exact h59
          refine lv_iload hx hb d_SM_resultOf_65 (lv_at hl 2 rfl) ?_
          refine lv_bipush (v := 8) hx hb d_SM_resultOf_67 (by decide) ?_
          refine lv_icmp_ne hx hb d_SM_resultOf_69 rfl (fun h69 => ?_) (fun h69 => ?_)
          · refine lv_iload hx hb d_SM_resultOf_90 (lv_at hl 2 rfl) ?_
            refine lv_iconst (v := 3) hx hb d_SM_resultOf_92 (by decide) ?_
            refine lv_icmp_lt hx hb d_SM_resultOf_93 rfl (fun h93 => ?_) (fun h93 => ?_)
            · have o9 : u 14 t z ≤ 2 ∨ u 14 t z = 9 := qm_op29 hok.1 h69 (Or.inl h93)
              have d6 := qm_rf_d6 (by rw [← o1] at r0; exact r0) i1 o9
              refine lv_aload_n hx hb d_SM_resultOf_131 rfl (lv_at hl 5 rfl) ?_
              refine lv_aload_n hx hb d_SM_resultOf_132 rfl (lv_at hl 5 rfl) ?_
              refine lv_iload hx hb d_SM_resultOf_133 (lv_at hl 2 rfl) ?_
              refine lv_iload hx hb d_SM_resultOf_135 (lv_at hl 1 rfl) ?_
              refine lv_aload_n hx hb d_SM_resultOf_137 rfl (lv_at hl 7 rfl) ?_
              refine lv_aload_n hx hb d_SM_resultOf_138 rfl (lv_at hl 8 rfl) ?_
              refine qa_pV (k := 16) (i := 0) (As := [.int (u 14 t z), .int (u 15 t z), .ref (qa_a y 5 i), .ref (qa_a y 18 0)]) E hC (c_SM_fetch_5_18 l y u i (u 14 t z) (u 15 t z) stk.length hi hok i2 i1 (fun q9 => qm_rf_d1 (by rw [← o1] at r0; exact r0) i1 (Or.inr q9))) Nat.one_pos rfl rfl k_SM_46 (qa_fitR (by decide) (by decide)) rfl hl.1 rfl (Nat.le_of_ble_eq_true rfl) d_SM_resultOf_139 ?_
              refine qa_mVv (k := 16) (i := 0) (As := [.int (qm_fe (u 14 t z) (u 15 t z) (u 5 i) (u 18 0) (u 17 0 (stk.length - 1)))]) E hC (c_SM_push l y u stk.length (qm_fe (u 14 t z) (u 15 t z) (u 5 i) (u 18 0) (u 17 0 (stk.length - 1))) i2 d6) Nat.one_pos rfl rfl k_SM_42 (qa_fitR (by decide) (by decide)) rfl hl.1 rfl (Nat.le_of_ble_eq_true rfl) d_SM_resultOf_142 (fun u1 H locs hp1 hC => ?_)
              have g3 := hp1
              have f9 : qm_fe (u 14 t z) (u 15 t z) (u 5 i) (u 18 0) (u 17 0 (stk.length - 1)) = qm_fe (v 14 t z) (v 15 t z) (v 5 i) (v 18 0) (stk.headD 0) := by
                rw [o1, o2, o3, o4]
                by_cases hne : stk.length = 0
                · have n9 : ¬ v 14 t z = 9 := fun q9 => by
                    have := qm_rf_d1 r0 i1 (Or.inr q9)
                    omega
                  unfold qm_fe
                  simp only [if_neg n9]
                · rw [htop hne]
              refine lv_iinc (v := nI (z + 1)) hx hb d_SM_resultOf_145 hl (k := 3) rfl (nI_1 z) (by decide) rfl (fun ls hl => ?_)
              have hl : lv_has ls 11 [(5, .int (nI (z + 1))), (8, .int rv), (7, .int (u 15 t z)), (6, .int (u 14 t z)), (4, .int (nI 0)), (0, .ref (qa_a y 16 0)), (1, .ref (qa_a y 13 t)), (2, .ref (qa_a y 5 i)), (3, .ref (qa_a y 18 0))] := hl
              refine lv_goto hx hb d_SM_resultOf_148 rfl ?_
              exact ih (z + 1) u1 H locs 0 (qm_fe (u 14 t z) (u 15 t z) (u 5 i) (u 18 0) (u 17 0 (stk.length - 1)) :: stk) ls (by omega) hC ⟨by simp; omega, by rw [g3, qa_up_s]; rfl, ⟨by rw [g3, qa_up_kk (by decide), qa_up_s], qm_st_n i3 (fun q hq => by rw [g3, qa_up_kk (by decide), qa_up_f (by omega)])⟩, fun k h1 h2 => by rw [g3, qa_up_kk h1, qa_up_kk h2]; exact i4 k h1 h2, by omega, by rw [← i6, qm_ex_0 hz, if_neg (by rw [r0]; exact fun q9 => q9 rfl), if_neg (by rw [← o1]; exact h69), if_neg (fun q9 => q9.1 (by rw [← o1]; exact h93)), f9]⟩ (lv_sub hl [0, 4, 5, 6, 7, 8] rfl)
            · refine lv_iload hx hb d_SM_resultOf_96 (lv_at hl 2 rfl) ?_
              refine lv_bipush (v := 7) hx hb d_SM_resultOf_98 (by decide) ?_
              refine lv_icmp_gt hx hb d_SM_resultOf_100 rfl (fun h100 => ?_) (fun h100 => ?_)
              · have o9 : u 14 t z ≤ 2 ∨ u 14 t z = 9 := qm_op29 hok.1 h69 (Or.inr h100)
                have d6 := qm_rf_d6 (by rw [← o1] at r0; exact r0) i1 o9
                refine lv_aload_n hx hb d_SM_resultOf_131 rfl (lv_at hl 5 rfl) ?_
                refine lv_aload_n hx hb d_SM_resultOf_132 rfl (lv_at hl 5 rfl) ?_
                refine lv_iload hx hb d_SM_resultOf_133 (lv_at hl 2 rfl) ?_
                refine lv_iload hx hb d_SM_resultOf_135 (lv_at hl 1 rfl) ?_
                refine lv_aload_n hx hb d_SM_resultOf_137 rfl (lv_at hl 7 rfl) ?_
                refine lv_aload_n hx hb d_SM_resultOf_138 rfl (lv_at hl 8 rfl) ?_
                refine qa_pV (k := 16) (i := 0) (As := [.int (u 14 t z), .int (u 15 t z), .ref (qa_a y 5 i), .ref (qa_a y 18 0)]) E hC (c_SM_fetch_5_18 l y u i (u 14 t z) (u 15 t z) stk.length hi hok i2 i1 (fun q9 => qm_rf_d1 (by rw [← o1] at r0; exact r0) i1 (Or.inr q9))) Nat.one_pos rfl rfl k_SM_46 (qa_fitR (by decide) (by decide)) rfl hl.1 rfl (Nat.le_of_ble_eq_true rfl) d_SM_resultOf_139 ?_
                refine qa_mVv (k := 16) (i := 0) (As := [.int (qm_fe (u 14 t z) (u 15 t z) (u 5 i) (u 18 0) (u 17 0 (stk.length - 1)))]) E hC (c_SM_push l y u stk.length (qm_fe (u 14 t z) (u 15 t z) (u 5 i) (u 18 0) (u 17 0 (stk.length - 1))) i2 d6) Nat.one_pos rfl rfl k_SM_42 (qa_fitR (by decide) (by decide)) rfl hl.1 rfl (Nat.le_of_ble_eq_true rfl) d_SM_resultOf_142 (fun u2 H locs hp2 hC => ?_)
                have g3 := hp2
                have f9 : qm_fe (u 14 t z) (u 15 t z) (u 5 i) (u 18 0) (u 17 0 (stk.length - 1)) = qm_fe (v 14 t z) (v 15 t z) (v 5 i) (v 18 0) (stk.headD 0) := by
                  rw [o1, o2, o3, o4]
                  by_cases hne : stk.length = 0
                  · have n9 : ¬ v 14 t z = 9 := fun q9 => by
                      have := qm_rf_d1 r0 i1 (Or.inr q9)
                      omega
                    unfold qm_fe
                    simp only [if_neg n9]
                  · rw [htop hne]
                refine lv_iinc (v := nI (z + 1)) hx hb d_SM_resultOf_145 hl (k := 3) rfl (nI_1 z) (by decide) rfl (fun ls hl => ?_)
                have hl : lv_has ls 11 [(5, .int (nI (z + 1))), (8, .int rv), (7, .int (u 15 t z)), (6, .int (u 14 t z)), (4, .int (nI 0)), (0, .ref (qa_a y 16 0)), (1, .ref (qa_a y 13 t)), (2, .ref (qa_a y 5 i)), (3, .ref (qa_a y 18 0))] := hl
                refine lv_goto hx hb d_SM_resultOf_148 rfl ?_
                exact ih (z + 1) u2 H locs 0 (qm_fe (u 14 t z) (u 15 t z) (u 5 i) (u 18 0) (u 17 0 (stk.length - 1)) :: stk) ls (by omega) hC ⟨by simp; omega, by rw [g3, qa_up_s]; rfl, ⟨by rw [g3, qa_up_kk (by decide), qa_up_s], qm_st_n i3 (fun q hq => by rw [g3, qa_up_kk (by decide), qa_up_f (by omega)])⟩, fun k h1 h2 => by rw [g3, qa_up_kk h1, qa_up_kk h2]; exact i4 k h1 h2, by omega, by rw [← i6, qm_ex_0 hz, if_neg (by rw [r0]; exact fun q9 => q9 rfl), if_neg (by rw [← o1]; exact h69), if_neg (fun q9 => q9.2 (by rw [← o1]; exact h100)), f9]⟩ (lv_sub hl [0, 4, 5, 6, 7, 8] rfl)
              · have d2 := qm_rf_d2 r0 i1 (by rw [← o1]; exact h93) (by rw [← o1]; exact h100)
                obtain ⟨b, a, r, rfl⟩ : ∃ b a r, stk = b :: a :: r := by
                  cases stk with
                  | nil => simp at d2
                  | cons b r =>
                    cases r with
                    | nil => simp at d2
                    | cons a r => exact ⟨b, a, r, rfl⟩
                simp only [List.length_cons] at i1 i2
                refine lv_aload_n hx hb d_SM_resultOf_103 rfl (lv_at hl 5 rfl) ?_
                refine qa_mV (k := 16) (i := 0) (As := []) E hC (c_SM_pop l y u (r.length + 1) i2 (by omega)) Nat.one_pos rfl rfl k_SM_34 (qa_fitR (by decide) (by decide)) rfl hl.1 rfl (Nat.le_of_ble_eq_true rfl) d_SM_resultOf_104 (fun r3 u3 H locs hp3 hC => ?_)
                have e4 : r3 = b := hp3.1.trans i3.1
                have e3 := hp3.2
                refine lv_istore hx hb d_SM_resultOf_107 hl (by decide) rfl (fun ls hl => ?_)
                have hl : lv_has ls 11 [(9, .int r3), (8, .int rv), (7, .int (u 15 t z)), (6, .int (u 14 t z)), (5, .int (nI z)), (4, .int (nI 0)), (0, .ref (qa_a y 16 0)), (1, .ref (qa_a y 13 t)), (2, .ref (qa_a y 5 i)), (3, .ref (qa_a y 18 0))] := hl
                refine lv_aload_n hx hb d_SM_resultOf_109 rfl (lv_at hl 6 rfl) ?_
                have j2 : u3 16 0 1 = nI (r.length + 1) := by rw [e3, qa_up_s]
                refine qa_mV (k := 16) (i := 0) (As := []) E hC (c_SM_pop l y u3 r.length j2 (by omega)) Nat.one_pos rfl rfl k_SM_34 (qa_fitR (by decide) (by decide)) rfl hl.1 rfl (Nat.le_of_ble_eq_true rfl) d_SM_resultOf_110 (fun r4 u4 H locs hp4 hC => ?_)
                have f4 : r4 = a := by rw [hp4.1, e3, qa_up_k (by decide)]; exact i3.2.1
                have f3 := hp4.2
                have j3 : u4 16 0 1 = nI r.length := by rw [f3, qa_up_s]
                refine lv_istore hx hb d_SM_resultOf_113 hl (by decide) rfl (fun ls hl => ?_)
                have hl : lv_has ls 11 [(10, .int r4), (9, .int r3), (8, .int rv), (7, .int (u 15 t z)), (6, .int (u 14 t z)), (5, .int (nI z)), (4, .int (nI 0)), (0, .ref (qa_a y 16 0)), (1, .ref (qa_a y 13 t)), (2, .ref (qa_a y 5 i)), (3, .ref (qa_a y 18 0))] := hl
                refine lv_aload_n hx hb d_SM_resultOf_115 rfl (lv_at hl 7 rfl) ?_
                refine lv_iload hx hb d_SM_resultOf_116 (lv_at hl 4 rfl) ?_
                refine lv_iload hx hb d_SM_resultOf_118 (lv_at hl 0 rfl) ?_
                refine lv_iload hx hb d_SM_resultOf_120 (lv_at hl 1 rfl) ?_
                refine qa_pT (As := [.int (u 14 t z), .int r4, .int r3]) F (c_SM_combine l (u 14 t z) r4 r3) k_SM_38 (qa_fitR (by decide) (by decide)) rfl hl.1 rfl (Nat.le_of_ble_eq_true rfl) d_SM_resultOf_122 ?_
                refine qa_mVv (k := 16) (i := 0) (As := [.int (qm_two (u 14 t z) r4 r3)]) E hC (c_SM_push l y u4 r.length (qm_two (u 14 t z) r4 r3) j3 (by omega)) Nat.one_pos rfl rfl k_SM_42 (qa_fitR (by decide) (by decide)) rfl hl.1 rfl (Nat.le_of_ble_eq_true rfl) d_SM_resultOf_125 (fun u5 H locs hp5 hC => ?_)
                have g3 := hp5
                refine lv_goto hx hb d_SM_resultOf_128 rfl ?_
                refine lv_iinc (v := nI (z + 1)) hx hb d_SM_resultOf_145 hl (k := 5) rfl (nI_1 z) (by decide) rfl (fun ls hl => ?_)
                have hl : lv_has ls 11 [(5, .int (nI (z + 1))), (10, .int r4), (9, .int r3), (8, .int rv), (7, .int (u 15 t z)), (6, .int (u 14 t z)), (4, .int (nI 0)), (0, .ref (qa_a y 16 0)), (1, .ref (qa_a y 13 t)), (2, .ref (qa_a y 5 i)), (3, .ref (qa_a y 18 0))] := hl
                refine lv_goto hx hb d_SM_resultOf_148 rfl ?_
                exact ih (z + 1) u5 H locs 0 (qm_two (u 14 t z) r4 r3 :: r) ls (by omega) hC ⟨by simp; omega, by rw [g3, qa_up_s]; rfl, ⟨by rw [g3, qa_up_kk (by decide), qa_up_s], qm_st_n i3.2.2 (fun q hq => by rw [g3, qa_up_kk (by decide), qa_up_f (by omega), f3, qa_up_kk (by decide), e3, qa_up_kk (by decide)])⟩, fun k h1 h2 => by rw [g3, qa_up_kk h1, qa_up_kk h2, f3, qa_up_kk h1, e3, qa_up_kk h1]; exact i4 k h1 h2, by omega, by rw [← i6, qm_ex_0 hz, if_neg (by rw [r0]; exact fun q9 => q9 rfl), if_neg (by rw [← o1]; exact h69), if_pos ⟨by rw [← o1]; exact h93, by rw [← o1]; exact h100⟩, e4, f4, o1]; rfl⟩ (lv_sub hl [0, 6, 7, 8, 9, 10] rfl)
          · have o8 : v 14 t z = 8 := by rw [← o1]; exact h69
            have d1 := qm_rf_d1 r0 i1 (Or.inl o8)
            obtain ⟨b, r, rfl⟩ : ∃ b r, stk = b :: r := by
              cases stk with
              | nil => simp at d1
              | cons b r => exact ⟨b, r, rfl⟩
            simp only [List.length_cons] at i1 i2
            refine lv_aload_n hx hb d_SM_resultOf_72 rfl (lv_at hl 5 rfl) ?_
            refine qa_mV (k := 16) (i := 0) (As := []) E hC (c_SM_pop l y u r.length i2 (by omega)) Nat.one_pos rfl rfl k_SM_34 (qa_fitR (by decide) (by decide)) rfl hl.1 rfl (Nat.le_of_ble_eq_true rfl) d_SM_resultOf_73 (fun r6 u6 H locs hp6 hC => ?_)
            have e4 : r6 = b := hp6.1.trans i3.1
            have e3 := hp6.2
            refine lv_if_ne hx hb d_SM_resultOf_76 rfl (fun h76 => ?_) (fun h76 => ?_)
            · refine lv_iconst (v := 0) hx hb d_SM_resultOf_84 (by decide) ?_
              rw [show (0 : Int32) = nI 0 from rfl]
              refine lv_istore hx hb d_SM_resultOf_85 hl (by decide) rfl (fun ls hl => ?_)
              have hl : lv_has ls 11 [(4, .int (nI 0)), (8, .int rv), (7, .int (u 15 t z)), (6, .int (u 14 t z)), (5, .int (nI z)), (0, .ref (qa_a y 16 0)), (1, .ref (qa_a y 13 t)), (2, .ref (qa_a y 5 i)), (3, .ref (qa_a y 18 0))] := hl
              refine lv_goto hx hb d_SM_resultOf_87 rfl ?_
              refine lv_iinc (v := nI (z + 1)) hx hb d_SM_resultOf_145 hl (k := 4) rfl (nI_1 z) (by decide) rfl (fun ls hl => ?_)
              have hl : lv_has ls 11 [(5, .int (nI (z + 1))), (4, .int (nI 0)), (8, .int rv), (7, .int (u 15 t z)), (6, .int (u 14 t z)), (0, .ref (qa_a y 16 0)), (1, .ref (qa_a y 13 t)), (2, .ref (qa_a y 5 i)), (3, .ref (qa_a y 18 0))] := hl
              refine lv_goto hx hb d_SM_resultOf_148 rfl ?_
              exact ih (z + 1) u6 H locs 0 r ls (by omega) hC ⟨by omega, by rw [e3, qa_up_s], by rw [e3, qa_up_kk (by decide)]; exact i3.2, fun k h1 h2 => by rw [e3, qa_up_kk h1]; exact i4 k h1 h2, by omega, by rw [← i6, qm_ex_0 hz, if_neg (by rw [r0]; exact fun q9 => q9 rfl), if_pos o8]; rw [if_neg (show ¬ (b :: r).headD 0 = 0 from fun q9 => h76 (e4.trans q9))]; rfl⟩ (lv_sub hl [0, 1, 5, 6, 7, 8] rfl)
            · refine lv_iload hx hb d_SM_resultOf_79 (lv_at hl 1 rfl) ?_
              refine lv_goto hx hb d_SM_resultOf_81 rfl ?_
              obtain ⟨j, hj, e5⟩ := hok.2.2.2 h69
              rw [e5]
              refine lv_istore hx hb d_SM_resultOf_85 hl (by decide) rfl (fun ls hl => ?_)
              have hl : lv_has ls 11 [(4, .int (nI j)), (8, .int rv), (7, .int (u 15 t z)), (6, .int (u 14 t z)), (5, .int (nI z)), (0, .ref (qa_a y 16 0)), (1, .ref (qa_a y 13 t)), (2, .ref (qa_a y 5 i)), (3, .ref (qa_a y 18 0))] := hl
              refine lv_goto hx hb d_SM_resultOf_87 rfl ?_
              refine lv_iinc (v := nI (z + 1)) hx hb d_SM_resultOf_145 hl (k := 4) rfl (nI_1 z) (by decide) rfl (fun ls hl => ?_)
              have hl : lv_has ls 11 [(5, .int (nI (z + 1))), (4, .int (nI j)), (8, .int rv), (7, .int (u 15 t z)), (6, .int (u 14 t z)), (0, .ref (qa_a y 16 0)), (1, .ref (qa_a y 13 t)), (2, .ref (qa_a y 5 i)), (3, .ref (qa_a y 18 0))] := hl
              refine lv_goto hx hb d_SM_resultOf_148 rfl ?_
              exact ih (z + 1) u6 H locs j r ls (by omega) hC ⟨by omega, by rw [e3, qa_up_s], by rw [e3, qa_up_kk (by decide)]; exact i3.2, fun k h1 h2 => by rw [e3, qa_up_kk h1]; exact i4 k h1 h2, hj, by rw [← i6, qm_ex_0 hz, if_neg (by rw [r0]; exact fun q9 => q9 rfl), if_pos o8]; rw [if_pos (by rw [← h76]; exact e4.symm), ← o2, e5, qm_ix_n (by omega)]; rfl⟩ (lv_sub hl [0, 1, 5, 6, 7, 8] rfl)
        · refine lv_iload hx hb d_SM_resultOf_62 (lv_at hl 0 rfl) ?_
          exact qa_mret E hC hr hlocks ⟨by rw [← i6, qm_ex_0 hz, if_pos (by rw [← r9]; exact h59)]; exact r9, i4⟩ d_SM_resultOf_64
      · obtain ⟨q, rfl⟩ : ∃ q, kk = q + 1 := ⟨kk - 1, by rcases kk with _ | q; exact absurd (by decide) h22; omega⟩
        have hl : lv_has ls 11 [(5, .int (nI z)), (4, .int (nI (q + 1))), (0, .ref (qa_a y 16 0)), (1, .ref (qa_a y 13 t)), (2, .ref (qa_a y 5 i)), (3, .ref (qa_a y 18 0))] := hl
        refine lv_iinc (v := nI q) hx hb d_SM_resultOf_25 hl (k := 1) rfl (pk_m1 q) (by decide) rfl (fun ls hl => ?_)
        have hl : lv_has ls 11 [(4, .int (nI q)), (5, .int (nI z)), (0, .ref (qa_a y 16 0)), (1, .ref (qa_a y 13 t)), (2, .ref (qa_a y 5 i)), (3, .ref (qa_a y 18 0))] := hl
        refine lv_goto hx hb d_SM_resultOf_28 rfl ?_
        refine lv_iinc (v := nI (z + 1)) hx hb d_SM_resultOf_145 hl (k := 1) rfl (nI_1 z) (by decide) rfl (fun ls hl => ?_)
        have hl : lv_has ls 11 [(5, .int (nI (z + 1))), (4, .int (nI q)), (0, .ref (qa_a y 16 0)), (1, .ref (qa_a y 13 t)), (2, .ref (qa_a y 5 i)), (3, .ref (qa_a y 18 0))] := hl
        refine lv_goto hx hb d_SM_resultOf_148 rfl ?_
        exact ih (z + 1) u H locs q stk ls (by omega) hC ⟨i1, i2, i3, i4, by omega, by rw [← i6]; exact (qm_ex_s hz).symm⟩ (lv_sub hl [0, 1, 2, 3, 4, 5] rfl)
  refine lv_aload_n hx hb d_SM_resultOf_0 rfl (lv_at hl 0 rfl) ?_
  refine lv_iconst (v := 0) hx hb d_SM_resultOf_1 (by decide) ?_
  refine qa_put (k := 16) (i := 0) (f := 1) E hC Nat.one_pos rfl rfl (by decide) f_SM_15 rfl rfl rfl rfl d_SM_resultOf_2 (fun H locs hC => ?_)
  refine lv_iconst (v := 0) hx hb d_SM_resultOf_5 (by decide) ?_
  refine lv_istore hx hb d_SM_resultOf_6 hl (by decide) rfl (fun ls hl => ?_)
  have hl : lv_has ls 11 [(4, .int 0), (0, .ref (qa_a y 16 0)), (1, .ref (qa_a y 13 t)), (2, .ref (qa_a y 5 i)), (3, .ref (qa_a y 18 0))] := hl
  refine lv_iconst (v := 0) hx hb d_SM_resultOf_8 (by decide) ?_
  refine lv_istore hx hb d_SM_resultOf_9 hl (by decide) rfl (fun ls hl => ?_)
  have hl : lv_has ls 11 [(5, .int 0), (4, .int 0), (0, .ref (qa_a y 16 0)), (1, .ref (qa_a y 13 t)), (2, .ref (qa_a y 5 i)), (3, .ref (qa_a y 18 0))] := hl
  exact loop L 0 (qa_up v 16 0 1 0) H locs 0 [] ls (by omega) hC ⟨by simp, qa_up_s, trivial, fun k h1 h2 => qa_up_kk h1, by omega, by rw [Nat.sub_zero]⟩ (lv_sub hl [0, 1, 2, 3, 4, 5] rfl)

set_option maxHeartbeats 4000000 in
set_option maxRecDepth 100000 in
theorem c_SM_resultOf_19_18 (l : Launch) (y : qa_L) (v : qa_M) (t L : Nat) (ht : t < 4) (hL : v 13 t 2 = nI L) (hL12 : L ≤ 12) (hP : ∀ z, z < L → qm_iok (qa_n y) (v 14 t z) (v 15 t z)) : qa_Mi l y_SM_resultOf b_SM_resultOf 11 (some .int) 2 [.ref (qa_a y 16 0), .ref (qa_a y 13 t), .ref (qa_a y 19 0), .ref (qa_a y 18 0)] y v (fun r u => r = qm_ex (v 14 t) (v 15 t) (v 19 0) (v 18 0) L 0 0 [] ∧ ∀ k, k ≠ 16 → k ≠ 17 → u k = v k) := by
  refine qa_ofMi (plainFor_of_name (by decide)) (Nat.le_of_ble_eq_true rfl) ?_
  intro p e s m below meth c ls E hr hlocks hC hl
  have E : qa_E p m c b_SM_resultOf 11 s _ "VotedFrames$StackMachine" y := E
  have F := E.1
  have hx := F.1
  have hb := F.2.1
  have hown : s.vm.findClass "VotedFrames$StackMachine" = some m.cls := F.2.2.2.1
  have hts := F.2.2.2.2
  have hn4 : 4 ≤ qa_n y := E.2.1.2.2.1
  have hn7 : qa_n y ≤ 7 := E.2.1.2.2.2.1
  have hl : lv_has ls 11 [(0, .ref (qa_a y 16 0)), (1, .ref (qa_a y 13 t)), (2, .ref (qa_a y 19 0)), (3, .ref (qa_a y 18 0))] := hl
  have loop : ∀ (d z : Nat) (u : qa_M) (H : Heap) (locs : List Loc) (kk : Nat) (stk : List Int32) (ls : Array Slot), z + d = L → qa_C y u s H locs → (stk.length ≤ 6 ∧ u 16 0 1 = nI stk.length ∧ qm_st (u 17 0) stk ∧ (∀ k, k ≠ 16 → k ≠ 17 → u k = v k) ∧ kk ≤ 11 ∧ qm_ex (v 14 t) (v 15 t) (v 19 0) (v 18 0) (L - z) z kk stk = qm_ex (v 14 t) (v 15 t) (v 19 0) (v 18 0) L 0 0 []) → lv_has ls 11 [(5, .int (nI z)), (4, .int (nI kk)), (0, .ref (qa_a y 16 0)), (1, .ref (qa_a y 13 t)), (2, .ref (qa_a y 19 0)), (3, .ref (qa_a y 18 0))] → W p l e (qa_R 2) s m [.ref (qa_a y 16 0), .ref (qa_a y 13 t), .ref (qa_a y 19 0), .ref (qa_a y 18 0)].toArray below meth c H locs 0 0 (MQ below (va_Qi (fun r u => r = qm_ex (v 14 t) (v 15 t) (v 19 0) (v 18 0) L 0 0 [] ∧ ∀ k, k ≠ 16 → k ≠ 17 → u k = v k) (fun u t => qa_W y u t) (qa_A y)) [.ref (qa_a y 16 0), .ref (qa_a y 13 t), .ref (qa_a y 19 0), .ref (qa_a y 18 0)].toArray s 0 0 (qa_A y)) (F0 m 11 ls []) := by
    intro d
    induction d with
    | zero =>
      intro z u H locs kk stk ls hkd hC hI hl
      obtain rfl : L = z := by omega
      obtain ⟨i1, i2, i3, i4, i5, i6⟩ := hI
      have hq : u 13 t 2 = nI L := by rw [i4 13 (by decide) (by decide)]; exact hL
      cases stk with
      | nil =>
        have e8 : (-1000000001 : Int32) = qm_ex (v 14 t) (v 15 t) (v 19 0) (v 18 0) 0 L kk [] := by unfold qm_ex; rfl
        refine lv_iload hx hb d_SM_resultOf_11 (lv_at hl 0 rfl) ?_
        refine lv_aload_n hx hb d_SM_resultOf_13 rfl (lv_at hl 3 rfl) ?_
        refine qa_get (k := 13) (i := t) (f := 2) (val := .int (u 13 t 2)) E hC ht rfl rfl (by decide) f_SM_19 rfl rfl d_SM_resultOf_14 ?_
        refine lv_icmp_ge hx hb d_SM_resultOf_17 rfl (fun _ => ?_) (fun h9 => absurd (by rw [hq]; exact nI_le (Nat.le_refl _) (by omega)) h9)
        refine lv_aload_n hx hb d_SM_resultOf_151 rfl (lv_at hl 2 rfl) ?_
        refine qa_get (k := 16) (i := 0) (f := 1) (val := .int (u 16 0 1)) E hC Nat.one_pos rfl rfl (by decide) f_SM_15 rfl rfl d_SM_resultOf_152 ?_
        refine lv_if_ne hx hb d_SM_resultOf_155 rfl (fun h9 => absurd i2 h9) (fun _ => ?_)
        refine lv_ldc (v := -1000000001) hx hb hown (hts _ k_SM_50) d_SM_resultOf_158 ?_
        refine lv_goto hx hb d_SM_resultOf_160 rfl ?_
        exact qa_mret E hC hr hlocks ⟨by rw [← i6, Nat.sub_self]; exact e8, i4⟩ d_SM_resultOf_174
      | cons b r =>
        have e7 : u 16 0 1 - 1 = nI r.length := by rw [i2, List.length_cons, nI_pred]
        have e8 : u 17 0 r.length = qm_ex (v 14 t) (v 15 t) (v 19 0) (v 18 0) 0 L kk (b :: r) := by unfold qm_ex; exact i3.1
        have e6 : r.length < 6 := by simp at i1; omega
        refine lv_iload hx hb d_SM_resultOf_11 (lv_at hl 0 rfl) ?_
        refine lv_aload_n hx hb d_SM_resultOf_13 rfl (lv_at hl 3 rfl) ?_
        refine qa_get (k := 13) (i := t) (f := 2) (val := .int (u 13 t 2)) E hC ht rfl rfl (by decide) f_SM_19 rfl rfl d_SM_resultOf_14 ?_
        refine lv_icmp_ge hx hb d_SM_resultOf_17 rfl (fun _ => ?_) (fun h9 => absurd (by rw [hq]; exact nI_le (Nat.le_refl _) (by omega)) h9)
        refine lv_aload_n hx hb d_SM_resultOf_151 rfl (lv_at hl 2 rfl) ?_
        refine qa_get (k := 16) (i := 0) (f := 1) (val := .int (u 16 0 1)) E hC Nat.one_pos rfl rfl (by decide) f_SM_15 rfl rfl d_SM_resultOf_152 ?_
        refine lv_if_ne hx hb d_SM_resultOf_155 rfl (fun _ => ?_) (fun h9 => absurd h9 (by rw [i2]; exact nI_ne0 (by simp) (by omega)))
        refine lv_aload_n hx hb d_SM_resultOf_163 rfl (lv_at hl 2 rfl) ?_
        refine qa_get (k := 16) (i := 0) (f := 0) (val := .ref (qa_a y 17 0)) E hC Nat.one_pos rfl rfl (by decide) f_SM_11 rfl rfl d_SM_resultOf_164 ?_
        refine lv_aload_n hx hb d_SM_resultOf_167 rfl (lv_at hl 2 rfl) ?_
        refine qa_get (k := 16) (i := 0) (f := 1) (val := .int (u 16 0 1)) E hC Nat.one_pos rfl rfl (by decide) f_SM_15 rfl rfl d_SM_resultOf_168 ?_
        refine lv_iconst (v := 1) hx hb d_SM_resultOf_171 (by decide) ?_
        refine lv_isub hx hb d_SM_resultOf_172 ?_
        refine qa_ild (k := 17) (i := 0) (j := r.length) E hC Nat.one_pos rfl rfl e7 e6 d_SM_resultOf_173 ?_
        exact qa_mret E hC hr hlocks ⟨by rw [← i6, Nat.sub_self]; exact e8, i4⟩ d_SM_resultOf_174
    | succ d ih =>
      intro z u H locs kk stk ls hkd hC hI hl
      have hz : z < L := by omega
      obtain ⟨i1, i2, i3, i4, i5, i6⟩ := hI
      have hq : u 13 t 2 = nI L := by rw [i4 13 (by decide) (by decide)]; exact hL
      have hz12 : z < 12 := by omega
      refine lv_iload hx hb d_SM_resultOf_11 (lv_at hl 0 rfl) ?_
      refine lv_aload_n hx hb d_SM_resultOf_13 rfl (lv_at hl 3 rfl) ?_
      refine qa_get (k := 13) (i := t) (f := 2) (val := .int (u 13 t 2)) E hC ht rfl rfl (by decide) f_SM_19 rfl rfl d_SM_resultOf_14 ?_
      refine lv_icmp_ge hx hb d_SM_resultOf_17 rfl (fun h9 => absurd h9 (by rw [hq]; exact nI_ge hz (by omega))) (fun _ => ?_)
      refine lv_iload hx hb d_SM_resultOf_20 (lv_at hl 1 rfl) ?_
      refine lv_if_le hx hb d_SM_resultOf_22 rfl (fun h22 => ?_) (fun h22 => ?_)
      · obtain rfl : kk = 0 := by
          rcases kk with _ | q
          · rfl
          · exact absurd h22 (nI_nle (by omega) (by omega))
        have hl : lv_has ls 11 [(5, .int (nI z)), (4, .int (nI 0)), (0, .ref (qa_a y 16 0)), (1, .ref (qa_a y 13 t)), (2, .ref (qa_a y 19 0)), (3, .ref (qa_a y 18 0))] := hl
        have o1 : u 14 t = v 14 t := by rw [i4 14 (by decide) (by decide)]
        have o2 : u 15 t = v 15 t := by rw [i4 15 (by decide) (by decide)]
        have hok : qm_iok (qa_n y) (u 14 t z) (u 15 t z) := by rw [o1, o2]; exact hP z hz
        have o3 : u 19 = v 19 := i4 19 (by decide) (by decide)
        have o4 : u 18 = v 18 := i4 18 (by decide) (by decide)
        have htop : stk.length ≠ 0 → u 17 0 (stk.length - 1) = stk.headD 0 := by
          intro hne
          cases stk with
          | nil => exact absurd rfl hne
          | cons b r => exact i3.1
        refine lv_aload_n hx hb d_SM_resultOf_31 rfl (lv_at hl 3 rfl) ?_
        refine qa_get (k := 13) (i := t) (f := 0) (val := .ref (qa_a y 14 t)) E hC ht rfl rfl (by decide) f_SM_24 rfl rfl d_SM_resultOf_32 ?_
        refine lv_iload hx hb d_SM_resultOf_35 (lv_at hl 0 rfl) ?_
        refine qa_ild (k := 14) (i := t) (j := z) E hC ht rfl rfl rfl hz12 d_SM_resultOf_37 ?_
        refine lv_istore hx hb d_SM_resultOf_38 hl (by decide) rfl (fun ls hl => ?_)
        have hl : lv_has ls 11 [(6, .int (u 14 t z)), (5, .int (nI z)), (4, .int (nI 0)), (0, .ref (qa_a y 16 0)), (1, .ref (qa_a y 13 t)), (2, .ref (qa_a y 19 0)), (3, .ref (qa_a y 18 0))] := hl
        refine lv_aload_n hx hb d_SM_resultOf_40 rfl (lv_at hl 4 rfl) ?_
        refine qa_get (k := 13) (i := t) (f := 1) (val := .ref (qa_a y 15 t)) E hC ht rfl rfl (by decide) f_SM_27 rfl rfl d_SM_resultOf_41 ?_
        refine lv_iload hx hb d_SM_resultOf_44 (lv_at hl 1 rfl) ?_
        refine qa_ild (k := 15) (i := t) (j := z) E hC ht rfl rfl rfl hz12 d_SM_resultOf_46 ?_
        refine lv_istore hx hb d_SM_resultOf_47 hl (by decide) rfl (fun ls hl => ?_)
        have hl : lv_has ls 11 [(7, .int (u 15 t z)), (6, .int (u 14 t z)), (5, .int (nI z)), (4, .int (nI 0)), (0, .ref (qa_a y 16 0)), (1, .ref (qa_a y 13 t)), (2, .ref (qa_a y 19 0)), (3, .ref (qa_a y 18 0))] := hl
        refine lv_aload_n hx hb d_SM_resultOf_49 rfl (lv_at hl 4 rfl) ?_
        refine lv_iload hx hb d_SM_resultOf_50 (lv_at hl 1 rfl) ?_
        refine qa_pV (k := 16) (i := 0) (As := [.int (u 14 t z)]) E hC (c_SM_refusalOf l y u (u 14 t z) stk.length i2 i1) Nat.one_pos rfl rfl k_SM_30 (qa_fitR (by decide) (by decide)) rfl hl.1 rfl (Nat.le_of_ble_eq_true rfl) d_SM_resultOf_52 ?_
        refine lv_topi (fun rv rv9 => ?_)
        have r9 : rv = qm_rf (v 14 t z) stk.length (stk.headD 0) := by
          rw [rv9, o1]
          by_cases hne : stk.length = 0
          · cases stk with
            | nil => exact qm_rf_0 _ _ _
            | cons b r => simp at hne
          · rw [htop hne]
        refine lv_istore hx hb d_SM_resultOf_55 hl (by decide) rfl (fun ls hl => ?_)
        have hl : lv_has ls 11 [(8, .int rv), (7, .int (u 15 t z)), (6, .int (u 14 t z)), (5, .int (nI z)), (4, .int (nI 0)), (0, .ref (qa_a y 16 0)), (1, .ref (qa_a y 13 t)), (2, .ref (qa_a y 19 0)), (3, .ref (qa_a y 18 0))] := hl
        refine lv_iload hx hb d_SM_resultOf_57 (lv_at hl 0 rfl) ?_
        refine lv_if_eq hx hb d_SM_resultOf_59 rfl (fun h59 => ?_) (fun h59 => ?_)
        · have r0 : qm_rf (v 14 t z) stk.length (stk.headD 0) = 0 := by rw [← r9]; exact h59
          refine lv_iload hx hb d_SM_resultOf_65 (lv_at hl 2 rfl) ?_
          refine lv_bipush (v := 8) hx hb d_SM_resultOf_67 (by decide) ?_
          refine lv_icmp_ne hx hb d_SM_resultOf_69 rfl (fun h69 => ?_) (fun h69 => ?_)
          · refine lv_iload hx hb d_SM_resultOf_90 (lv_at hl 2 rfl) ?_
            refine lv_iconst (v := 3) hx hb d_SM_resultOf_92 (by decide) ?_
            refine lv_icmp_lt hx hb d_SM_resultOf_93 rfl (fun h93 => ?_) (fun h93 => ?_)
            · have o9 : u 14 t z ≤ 2 ∨ u 14 t z = 9 := qm_op29 hok.1 h69 (Or.inl h93)
              have d6 := qm_rf_d6 (by rw [← o1] at r0; exact r0) i1 o9
              refine lv_aload_n hx hb d_SM_resultOf_131 rfl (lv_at hl 5 rfl) ?_
              refine lv_aload_n hx hb d_SM_resultOf_132 rfl (lv_at hl 5 rfl) ?_
              refine lv_iload hx hb d_SM_resultOf_133 (lv_at hl 2 rfl) ?_
              refine lv_iload hx hb d_SM_resultOf_135 (lv_at hl 1 rfl) ?_
              refine lv_aload_n hx hb d_SM_resultOf_137 rfl (lv_at hl 7 rfl) ?_
              refine lv_aload_n hx hb d_SM_resultOf_138 rfl (lv_at hl 8 rfl) ?_
              refine qa_pV (k := 16) (i := 0) (As := [.int (u 14 t z), .int (u 15 t z), .ref (qa_a y 19 0), .ref (qa_a y 18 0)]) E hC (c_SM_fetch_19_18 l y u (u 14 t z) (u 15 t z) stk.length hok i2 i1 (fun q9 => qm_rf_d1 (by rw [← o1] at r0; exact r0) i1 (Or.inr q9))) Nat.one_pos rfl rfl k_SM_46 (qa_fitR (by decide) (by decide)) rfl hl.1 rfl (Nat.le_of_ble_eq_true rfl) d_SM_resultOf_139 ?_
              refine qa_mVv (k := 16) (i := 0) (As := [.int (qm_fe (u 14 t z) (u 15 t z) (u 19 0) (u 18 0) (u 17 0 (stk.length - 1)))]) E hC (c_SM_push l y u stk.length (qm_fe (u 14 t z) (u 15 t z) (u 19 0) (u 18 0) (u 17 0 (stk.length - 1))) i2 d6) Nat.one_pos rfl rfl k_SM_42 (qa_fitR (by decide) (by decide)) rfl hl.1 rfl (Nat.le_of_ble_eq_true rfl) d_SM_resultOf_142 (fun u1 H locs hp1 hC => ?_)
              have g3 := hp1
              have f9 : qm_fe (u 14 t z) (u 15 t z) (u 19 0) (u 18 0) (u 17 0 (stk.length - 1)) = qm_fe (v 14 t z) (v 15 t z) (v 19 0) (v 18 0) (stk.headD 0) := by
                rw [o1, o2, o3, o4]
                by_cases hne : stk.length = 0
                · have n9 : ¬ v 14 t z = 9 := fun q9 => by
                    have := qm_rf_d1 r0 i1 (Or.inr q9)
                    omega
                  unfold qm_fe
                  simp only [if_neg n9]
                · rw [htop hne]
              refine lv_iinc (v := nI (z + 1)) hx hb d_SM_resultOf_145 hl (k := 3) rfl (nI_1 z) (by decide) rfl (fun ls hl => ?_)
              have hl : lv_has ls 11 [(5, .int (nI (z + 1))), (8, .int rv), (7, .int (u 15 t z)), (6, .int (u 14 t z)), (4, .int (nI 0)), (0, .ref (qa_a y 16 0)), (1, .ref (qa_a y 13 t)), (2, .ref (qa_a y 19 0)), (3, .ref (qa_a y 18 0))] := hl
              refine lv_goto hx hb d_SM_resultOf_148 rfl ?_
              exact ih (z + 1) u1 H locs 0 (qm_fe (u 14 t z) (u 15 t z) (u 19 0) (u 18 0) (u 17 0 (stk.length - 1)) :: stk) ls (by omega) hC ⟨by simp; omega, by rw [g3, qa_up_s]; rfl, ⟨by rw [g3, qa_up_kk (by decide), qa_up_s], qm_st_n i3 (fun q hq => by rw [g3, qa_up_kk (by decide), qa_up_f (by omega)])⟩, fun k h1 h2 => by rw [g3, qa_up_kk h1, qa_up_kk h2]; exact i4 k h1 h2, by omega, by rw [← i6, qm_ex_0 hz, if_neg (by rw [r0]; exact fun q9 => q9 rfl), if_neg (by rw [← o1]; exact h69), if_neg (fun q9 => q9.1 (by rw [← o1]; exact h93)), f9]⟩ (lv_sub hl [0, 4, 5, 6, 7, 8] rfl)
            · refine lv_iload hx hb d_SM_resultOf_96 (lv_at hl 2 rfl) ?_
              refine lv_bipush (v := 7) hx hb d_SM_resultOf_98 (by decide) ?_
              refine lv_icmp_gt hx hb d_SM_resultOf_100 rfl (fun h100 => ?_) (fun h100 => ?_)
              · have o9 : u 14 t z ≤ 2 ∨ u 14 t z = 9 := qm_op29 hok.1 h69 (Or.inr h100)
                have d6 := qm_rf_d6 (by rw [← o1] at r0; exact r0) i1 o9
                refine lv_aload_n hx hb d_SM_resultOf_131 rfl (lv_at hl 5 rfl) ?_
                refine lv_aload_n hx hb d_SM_resultOf_132 rfl (lv_at hl 5 rfl) ?_
                refine lv_iload hx hb d_SM_resultOf_133 (lv_at hl 2 rfl) ?_
                refine lv_iload hx hb d_SM_resultOf_135 (lv_at hl 1 rfl) ?_
                refine lv_aload_n hx hb d_SM_resultOf_137 rfl (lv_at hl 7 rfl) ?_
                refine lv_aload_n hx hb d_SM_resultOf_138 rfl (lv_at hl 8 rfl) ?_
                refine qa_pV (k := 16) (i := 0) (As := [.int (u 14 t z), .int (u 15 t z), .ref (qa_a y 19 0), .ref (qa_a y 18 0)]) E hC (c_SM_fetch_19_18 l y u (u 14 t z) (u 15 t z) stk.length hok i2 i1 (fun q9 => qm_rf_d1 (by rw [← o1] at r0; exact r0) i1 (Or.inr q9))) Nat.one_pos rfl rfl k_SM_46 (qa_fitR (by decide) (by decide)) rfl hl.1 rfl (Nat.le_of_ble_eq_true rfl) d_SM_resultOf_139 ?_
                refine qa_mVv (k := 16) (i := 0) (As := [.int (qm_fe (u 14 t z) (u 15 t z) (u 19 0) (u 18 0) (u 17 0 (stk.length - 1)))]) E hC (c_SM_push l y u stk.length (qm_fe (u 14 t z) (u 15 t z) (u 19 0) (u 18 0) (u 17 0 (stk.length - 1))) i2 d6) Nat.one_pos rfl rfl k_SM_42 (qa_fitR (by decide) (by decide)) rfl hl.1 rfl (Nat.le_of_ble_eq_true rfl) d_SM_resultOf_142 (fun u2 H locs hp2 hC => ?_)
                have g3 := hp2
                have f9 : qm_fe (u 14 t z) (u 15 t z) (u 19 0) (u 18 0) (u 17 0 (stk.length - 1)) = qm_fe (v 14 t z) (v 15 t z) (v 19 0) (v 18 0) (stk.headD 0) := by
                  rw [o1, o2, o3, o4]
                  by_cases hne : stk.length = 0
                  · have n9 : ¬ v 14 t z = 9 := fun q9 => by
                      have := qm_rf_d1 r0 i1 (Or.inr q9)
                      omega
                    unfold qm_fe
                    simp only [if_neg n9]
                  · rw [htop hne]
                refine lv_iinc (v := nI (z + 1)) hx hb d_SM_resultOf_145 hl (k := 3) rfl (nI_1 z) (by decide) rfl (fun ls hl => ?_)
                have hl : lv_has ls 11 [(5, .int (nI (z + 1))), (8, .int rv), (7, .int (u 15 t z)), (6, .int (u 14 t z)), (4, .int (nI 0)), (0, .ref (qa_a y 16 0)), (1, .ref (qa_a y 13 t)), (2, .ref (qa_a y 19 0)), (3, .ref (qa_a y 18 0))] := hl
                refine lv_goto hx hb d_SM_resultOf_148 rfl ?_
                exact ih (z + 1) u2 H locs 0 (qm_fe (u 14 t z) (u 15 t z) (u 19 0) (u 18 0) (u 17 0 (stk.length - 1)) :: stk) ls (by omega) hC ⟨by simp; omega, by rw [g3, qa_up_s]; rfl, ⟨by rw [g3, qa_up_kk (by decide), qa_up_s], qm_st_n i3 (fun q hq => by rw [g3, qa_up_kk (by decide), qa_up_f (by omega)])⟩, fun k h1 h2 => by rw [g3, qa_up_kk h1, qa_up_kk h2]; exact i4 k h1 h2, by omega, by rw [← i6, qm_ex_0 hz, if_neg (by rw [r0]; exact fun q9 => q9 rfl), if_neg (by rw [← o1]; exact h69), if_neg (fun q9 => q9.2 (by rw [← o1]; exact h100)), f9]⟩ (lv_sub hl [0, 4, 5, 6, 7, 8] rfl)
              · have d2 := qm_rf_d2 r0 i1 (by rw [← o1]; exact h93) (by rw [← o1]; exact h100)
                obtain ⟨b, a, r, rfl⟩ : ∃ b a r, stk = b :: a :: r := by
                  cases stk with
                  | nil => simp at d2
                  | cons b r =>
                    cases r with
                    | nil => simp at d2
                    | cons a r => exact ⟨b, a, r, rfl⟩
                simp only [List.length_cons] at i1 i2
                refine lv_aload_n hx hb d_SM_resultOf_103 rfl (lv_at hl 5 rfl) ?_
                refine qa_mV (k := 16) (i := 0) (As := []) E hC (c_SM_pop l y u (r.length + 1) i2 (by omega)) Nat.one_pos rfl rfl k_SM_34 (qa_fitR (by decide) (by decide)) rfl hl.1 rfl (Nat.le_of_ble_eq_true rfl) d_SM_resultOf_104 (fun r3 u3 H locs hp3 hC => ?_)
                have e4 : r3 = b := hp3.1.trans i3.1
                have e3 := hp3.2
                refine lv_istore hx hb d_SM_resultOf_107 hl (by decide) rfl (fun ls hl => ?_)
                have hl : lv_has ls 11 [(9, .int r3), (8, .int rv), (7, .int (u 15 t z)), (6, .int (u 14 t z)), (5, .int (nI z)), (4, .int (nI 0)), (0, .ref (qa_a y 16 0)), (1, .ref (qa_a y 13 t)), (2, .ref (qa_a y 19 0)), (3, .ref (qa_a y 18 0))] := hl
                refine lv_aload_n hx hb d_SM_resultOf_109 rfl (lv_at hl 6 rfl) ?_
                have j2 : u3 16 0 1 = nI (r.length + 1) := by rw [e3, qa_up_s]
                refine qa_mV (k := 16) (i := 0) (As := []) E hC (c_SM_pop l y u3 r.length j2 (by omega)) Nat.one_pos rfl rfl k_SM_34 (qa_fitR (by decide) (by decide)) rfl hl.1 rfl (Nat.le_of_ble_eq_true rfl) d_SM_resultOf_110 (fun r4 u4 H locs hp4 hC => ?_)
                have f4 : r4 = a := by rw [hp4.1, e3, qa_up_k (by decide)]; exact i3.2.1
                have f3 := hp4.2
                have j3 : u4 16 0 1 = nI r.length := by rw [f3, qa_up_s]
                refine lv_istore hx hb d_SM_resultOf_113 hl (by decide) rfl (fun ls hl => ?_)
                have hl : lv_has ls 11 [(10, .int r4), (9, .int r3), (8, .int rv), (7, .int (u 15 t z)), (6, .int (u 14 t z)), (5, .int (nI z)), (4, .int (nI 0)), (0, .ref (qa_a y 16 0)), (1, .ref (qa_a y 13 t)), (2, .ref (qa_a y 19 0)), (3, .ref (qa_a y 18 0))] := hl
                refine lv_aload_n hx hb d_SM_resultOf_115 rfl (lv_at hl 7 rfl) ?_
                refine lv_iload hx hb d_SM_resultOf_116 (lv_at hl 4 rfl) ?_
                refine lv_iload hx hb d_SM_resultOf_118 (lv_at hl 0 rfl) ?_
                refine lv_iload hx hb d_SM_resultOf_120 (lv_at hl 1 rfl) ?_
                refine qa_pT (As := [.int (u 14 t z), .int r4, .int r3]) F (c_SM_combine l (u 14 t z) r4 r3) k_SM_38 (qa_fitR (by decide) (by decide)) rfl hl.1 rfl (Nat.le_of_ble_eq_true rfl) d_SM_resultOf_122 ?_
                refine qa_mVv (k := 16) (i := 0) (As := [.int (qm_two (u 14 t z) r4 r3)]) E hC (c_SM_push l y u4 r.length (qm_two (u 14 t z) r4 r3) j3 (by omega)) Nat.one_pos rfl rfl k_SM_42 (qa_fitR (by decide) (by decide)) rfl hl.1 rfl (Nat.le_of_ble_eq_true rfl) d_SM_resultOf_125 (fun u5 H locs hp5 hC => ?_)
                have g3 := hp5
                refine lv_goto hx hb d_SM_resultOf_128 rfl ?_
                refine lv_iinc (v := nI (z + 1)) hx hb d_SM_resultOf_145 hl (k := 5) rfl (nI_1 z) (by decide) rfl (fun ls hl => ?_)
                have hl : lv_has ls 11 [(5, .int (nI (z + 1))), (10, .int r4), (9, .int r3), (8, .int rv), (7, .int (u 15 t z)), (6, .int (u 14 t z)), (4, .int (nI 0)), (0, .ref (qa_a y 16 0)), (1, .ref (qa_a y 13 t)), (2, .ref (qa_a y 19 0)), (3, .ref (qa_a y 18 0))] := hl
                refine lv_goto hx hb d_SM_resultOf_148 rfl ?_
                exact ih (z + 1) u5 H locs 0 (qm_two (u 14 t z) r4 r3 :: r) ls (by omega) hC ⟨by simp; omega, by rw [g3, qa_up_s]; rfl, ⟨by rw [g3, qa_up_kk (by decide), qa_up_s], qm_st_n i3.2.2 (fun q hq => by rw [g3, qa_up_kk (by decide), qa_up_f (by omega), f3, qa_up_kk (by decide), e3, qa_up_kk (by decide)])⟩, fun k h1 h2 => by rw [g3, qa_up_kk h1, qa_up_kk h2, f3, qa_up_kk h1, e3, qa_up_kk h1]; exact i4 k h1 h2, by omega, by rw [← i6, qm_ex_0 hz, if_neg (by rw [r0]; exact fun q9 => q9 rfl), if_neg (by rw [← o1]; exact h69), if_pos ⟨by rw [← o1]; exact h93, by rw [← o1]; exact h100⟩, e4, f4, o1]; rfl⟩ (lv_sub hl [0, 6, 7, 8, 9, 10] rfl)
          · have o8 : v 14 t z = 8 := by rw [← o1]; exact h69
            have d1 := qm_rf_d1 r0 i1 (Or.inl o8)
            obtain ⟨b, r, rfl⟩ : ∃ b r, stk = b :: r := by
              cases stk with
              | nil => simp at d1
              | cons b r => exact ⟨b, r, rfl⟩
            simp only [List.length_cons] at i1 i2
            refine lv_aload_n hx hb d_SM_resultOf_72 rfl (lv_at hl 5 rfl) ?_
            refine qa_mV (k := 16) (i := 0) (As := []) E hC (c_SM_pop l y u r.length i2 (by omega)) Nat.one_pos rfl rfl k_SM_34 (qa_fitR (by decide) (by decide)) rfl hl.1 rfl (Nat.le_of_ble_eq_true rfl) d_SM_resultOf_73 (fun r6 u6 H locs hp6 hC => ?_)
            have e4 : r6 = b := hp6.1.trans i3.1
            have e3 := hp6.2
            refine lv_if_ne hx hb d_SM_resultOf_76 rfl (fun h76 => ?_) (fun h76 => ?_)
            · refine lv_iconst (v := 0) hx hb d_SM_resultOf_84 (by decide) ?_
              rw [show (0 : Int32) = nI 0 from rfl]
              refine lv_istore hx hb d_SM_resultOf_85 hl (by decide) rfl (fun ls hl => ?_)
              have hl : lv_has ls 11 [(4, .int (nI 0)), (8, .int rv), (7, .int (u 15 t z)), (6, .int (u 14 t z)), (5, .int (nI z)), (0, .ref (qa_a y 16 0)), (1, .ref (qa_a y 13 t)), (2, .ref (qa_a y 19 0)), (3, .ref (qa_a y 18 0))] := hl
              refine lv_goto hx hb d_SM_resultOf_87 rfl ?_
              refine lv_iinc (v := nI (z + 1)) hx hb d_SM_resultOf_145 hl (k := 4) rfl (nI_1 z) (by decide) rfl (fun ls hl => ?_)
              have hl : lv_has ls 11 [(5, .int (nI (z + 1))), (4, .int (nI 0)), (8, .int rv), (7, .int (u 15 t z)), (6, .int (u 14 t z)), (0, .ref (qa_a y 16 0)), (1, .ref (qa_a y 13 t)), (2, .ref (qa_a y 19 0)), (3, .ref (qa_a y 18 0))] := hl
              refine lv_goto hx hb d_SM_resultOf_148 rfl ?_
              exact ih (z + 1) u6 H locs 0 r ls (by omega) hC ⟨by omega, by rw [e3, qa_up_s], by rw [e3, qa_up_kk (by decide)]; exact i3.2, fun k h1 h2 => by rw [e3, qa_up_kk h1]; exact i4 k h1 h2, by omega, by rw [← i6, qm_ex_0 hz, if_neg (by rw [r0]; exact fun q9 => q9 rfl), if_pos o8]; rw [if_neg (show ¬ (b :: r).headD 0 = 0 from fun q9 => h76 (e4.trans q9))]; rfl⟩ (lv_sub hl [0, 1, 5, 6, 7, 8] rfl)
            · refine lv_iload hx hb d_SM_resultOf_79 (lv_at hl 1 rfl) ?_
              refine lv_goto hx hb d_SM_resultOf_81 rfl ?_
              obtain ⟨j, hj, e5⟩ := hok.2.2.2 h69
              rw [e5]
              refine lv_istore hx hb d_SM_resultOf_85 hl (by decide) rfl (fun ls hl => ?_)
              have hl : lv_has ls 11 [(4, .int (nI j)), (8, .int rv), (7, .int (u 15 t z)), (6, .int (u 14 t z)), (5, .int (nI z)), (0, .ref (qa_a y 16 0)), (1, .ref (qa_a y 13 t)), (2, .ref (qa_a y 19 0)), (3, .ref (qa_a y 18 0))] := hl
              refine lv_goto hx hb d_SM_resultOf_87 rfl ?_
              refine lv_iinc (v := nI (z + 1)) hx hb d_SM_resultOf_145 hl (k := 4) rfl (nI_1 z) (by decide) rfl (fun ls hl => ?_)
              have hl : lv_has ls 11 [(5, .int (nI (z + 1))), (4, .int (nI j)), (8, .int rv), (7, .int (u 15 t z)), (6, .int (u 14 t z)), (0, .ref (qa_a y 16 0)), (1, .ref (qa_a y 13 t)), (2, .ref (qa_a y 19 0)), (3, .ref (qa_a y 18 0))] := hl
              refine lv_goto hx hb d_SM_resultOf_148 rfl ?_
              exact ih (z + 1) u6 H locs j r ls (by omega) hC ⟨by omega, by rw [e3, qa_up_s], by rw [e3, qa_up_kk (by decide)]; exact i3.2, fun k h1 h2 => by rw [e3, qa_up_kk h1]; exact i4 k h1 h2, hj, by rw [← i6, qm_ex_0 hz, if_neg (by rw [r0]; exact fun q9 => q9 rfl), if_pos o8]; rw [if_pos (by rw [← h76]; exact e4.symm), ← o2, e5, qm_ix_n (by omega)]; rfl⟩ (lv_sub hl [0, 1, 5, 6, 7, 8] rfl)
        · refine lv_iload hx hb d_SM_resultOf_62 (lv_at hl 0 rfl) ?_
          exact qa_mret E hC hr hlocks ⟨by rw [← i6, qm_ex_0 hz, if_pos (by rw [← r9]; exact h59)]; exact r9, i4⟩ d_SM_resultOf_64
      · obtain ⟨q, rfl⟩ : ∃ q, kk = q + 1 := ⟨kk - 1, by rcases kk with _ | q; exact absurd (by decide) h22; omega⟩
        have hl : lv_has ls 11 [(5, .int (nI z)), (4, .int (nI (q + 1))), (0, .ref (qa_a y 16 0)), (1, .ref (qa_a y 13 t)), (2, .ref (qa_a y 19 0)), (3, .ref (qa_a y 18 0))] := hl
        refine lv_iinc (v := nI q) hx hb d_SM_resultOf_25 hl (k := 1) rfl (pk_m1 q) (by decide) rfl (fun ls hl => ?_)
        have hl : lv_has ls 11 [(4, .int (nI q)), (5, .int (nI z)), (0, .ref (qa_a y 16 0)), (1, .ref (qa_a y 13 t)), (2, .ref (qa_a y 19 0)), (3, .ref (qa_a y 18 0))] := hl
        refine lv_goto hx hb d_SM_resultOf_28 rfl ?_
        refine lv_iinc (v := nI (z + 1)) hx hb d_SM_resultOf_145 hl (k := 1) rfl (nI_1 z) (by decide) rfl (fun ls hl => ?_)
        have hl : lv_has ls 11 [(5, .int (nI (z + 1))), (4, .int (nI q)), (0, .ref (qa_a y 16 0)), (1, .ref (qa_a y 13 t)), (2, .ref (qa_a y 19 0)), (3, .ref (qa_a y 18 0))] := hl
        refine lv_goto hx hb d_SM_resultOf_148 rfl ?_
        exact ih (z + 1) u H locs q stk ls (by omega) hC ⟨i1, i2, i3, i4, by omega, by rw [← i6]; exact (qm_ex_s hz).symm⟩ (lv_sub hl [0, 1, 2, 3, 4, 5] rfl)
  refine lv_aload_n hx hb d_SM_resultOf_0 rfl (lv_at hl 0 rfl) ?_
  refine lv_iconst (v := 0) hx hb d_SM_resultOf_1 (by decide) ?_
  refine qa_put (k := 16) (i := 0) (f := 1) E hC Nat.one_pos rfl rfl (by decide) f_SM_15 rfl rfl rfl rfl d_SM_resultOf_2 (fun H locs hC => ?_)
  refine lv_iconst (v := 0) hx hb d_SM_resultOf_5 (by decide) ?_
  refine lv_istore hx hb d_SM_resultOf_6 hl (by decide) rfl (fun ls hl => ?_)
  have hl : lv_has ls 11 [(4, .int 0), (0, .ref (qa_a y 16 0)), (1, .ref (qa_a y 13 t)), (2, .ref (qa_a y 19 0)), (3, .ref (qa_a y 18 0))] := hl
  refine lv_iconst (v := 0) hx hb d_SM_resultOf_8 (by decide) ?_
  refine lv_istore hx hb d_SM_resultOf_9 hl (by decide) rfl (fun ls hl => ?_)
  have hl : lv_has ls 11 [(5, .int 0), (4, .int 0), (0, .ref (qa_a y 16 0)), (1, .ref (qa_a y 13 t)), (2, .ref (qa_a y 19 0)), (3, .ref (qa_a y 18 0))] := hl
  exact loop L 0 (qa_up v 16 0 1 0) H locs 0 [] ls (by omega) hC ⟨by simp, qa_up_s, trivial, fun k h1 h2 => qa_up_kk h1, by omega, by rw [Nat.sub_zero]⟩ (lv_sub hl [0, 1, 2, 3, 4, 5] rfl)
