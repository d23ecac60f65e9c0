set_option maxHeartbeats 4000000 in
set_option maxRecDepth 100000 in
theorem c_MD_through (l : Launch) (y : qa_L) (v : qa_M) (j i : Nat) (hj : j < qa_n y) (hi : i < qa_n y) (w : qa_M) (hR : qm_RM (qa_n y) w v) : qa_Pu l y_MD_through b_MD_through 4 (some .boolean) 1 [.ref (qa_a y 22 0), .int (nI j), .int (nI i)] (qa_W y v) (qb (qm_hr y w j i)) := by
  refine qa_ofPu (plainFor_of_name (by decide)) (Nat.le_of_ble_eq_true rfl) ?_
  intro p e s m below meth c ls F hr hlocks hW hl
  have E : qa_E p m c b_MD_through 4 s _ "VotedFramesModel" y := ⟨F, hW.2⟩
  have hC : qa_C y v s s.heap [] := ⟨hW.1, va_S.rf⟩
  have hx := F.1
  have hb := F.2.1
  have hown : s.vm.findClass "VotedFramesModel" = some m.cls := F.2.2.2.1
  have hts := F.2.2.2.2
  have hn4 : 4 ≤ qa_n y := E.2.1.2.2.1
  have hn7 : qa_n y ≤ 7 := E.2.1.2.2.2.1
  have hl : lv_has ls 4 [(0, .ref (qa_a y 22 0)), (1, .int (nI j)), (2, .int (nI i))] := hl
  have q28 := qr_msk hR hi
  have q26 := qr_knd hR hj
  have q23i := qr_clk hR hi
  have q23j := qr_clk hR hj
  have q35 := qr_dly hR hi hj
  refine lv_aload_n hx hb d_MD_through_0 rfl (lv_at hl 0 rfl) ?_
  refine lv_iload_n hx hb d_MD_through_1 rfl (lv_at hl 2 rfl) ?_
  refine lv_iload_n hx hb d_MD_through_2 rfl (lv_at hl 1 rfl) ?_
  refine qa_pV (k := 22) (i := 0) (As := [.int (nI i), .int (nI j)]) E hC (c_MD_member l y v i (nI j) hi) Nat.one_pos rfl rfl k_MD_90 (qa_fitR (by decide) (by decide)) rfl hl.1 rfl (Nat.le_of_ble_eq_true rfl) d_MD_through_3 ?_
  refine lv_if_eq hx hb d_MD_through_6 rfl (fun h6 => ?_) (fun h6 => ?_)
  · refine lv_iconst (v := 0) hx hb d_MD_through_19 (by decide) ?_
    exact qa_zret hx hb hr hlocks (qb_0 (by unfold qm_hr; rw [← q28, qb_e0 h6]; rfl)) rfl d_MD_through_20
  · refine lv_aload_n hx hb d_MD_through_9 rfl (lv_at hl 0 rfl) ?_
    refine qa_get (k := 22) (i := 0) (f := 8) (val := .ref (qa_a y 26 0)) E hC Nat.one_pos rfl rfl (by decide) f_MD_19 rfl rfl d_MD_through_10 ?_
    refine lv_iload_n hx hb d_MD_through_13 rfl (lv_at hl 1 rfl) ?_
    refine qa_ild (k := 26) (i := 0) (j := j) E hC Nat.one_pos rfl rfl rfl (show j < 7 by omega) d_MD_through_14 ?_
    refine lv_iconst (v := 1) hx hb d_MD_through_15 (by decide) ?_
    refine lv_icmp_ne hx hb d_MD_through_16 rfl (fun h16 => ?_) (fun h16 => ?_)
    · refine lv_aload_n hx hb d_MD_through_21 rfl (lv_at hl 0 rfl) ?_
      refine qa_get (k := 22) (i := 0) (f := 5) (val := .ref (qa_a y 23 0)) E hC Nat.one_pos rfl rfl (by decide) f_MD_7 rfl rfl d_MD_through_22 ?_
      refine lv_iload_n hx hb d_MD_through_25 rfl (lv_at hl 2 rfl) ?_
      refine qa_ild (k := 23) (i := 0) (j := i) E hC Nat.one_pos rfl rfl rfl (show i < 7 by omega) d_MD_through_26 ?_
      refine lv_aload_n hx hb d_MD_through_27 rfl (lv_at hl 0 rfl) ?_
      refine qa_get (k := 22) (i := 0) (f := 5) (val := .ref (qa_a y 23 0)) E hC Nat.one_pos rfl rfl (by decide) f_MD_7 rfl rfl d_MD_through_28 ?_
      refine lv_iload_n hx hb d_MD_through_31 rfl (lv_at hl 1 rfl) ?_
      refine qa_ild (k := 23) (i := 0) (j := j) E hC Nat.one_pos rfl rfl rfl (show j < 7 by omega) d_MD_through_32 ?_
      refine lv_isub hx hb d_MD_through_33 ?_
      refine lv_aload_n hx hb d_MD_through_34 rfl (lv_at hl 0 rfl) ?_
      refine qa_get (k := 22) (i := 0) (f := 17) (val := .ref (qa_a y 35 0)) E hC Nat.one_pos rfl rfl (by decide) f_MD_46 rfl rfl d_MD_through_35 ?_
      refine lv_bipush (v := 7) hx hb d_MD_through_38 (by decide) ?_
      refine lv_iload_n hx hb d_MD_through_40 rfl (lv_at hl 1 rfl) ?_
      refine lv_imul hx hb d_MD_through_41 ?_
      refine lv_iload_n hx hb d_MD_through_42 rfl (lv_at hl 2 rfl) ?_
      refine lv_iadd hx hb d_MD_through_43 ?_
      refine qa_ild (k := 35) (i := 0) (j := ((7 * j) + i)) E hC Nat.one_pos rfl rfl (qn_add (qn_mul rfl rfl) rfl) (show (7 * j) + i < 49 by omega) d_MD_through_44 ?_
      refine lv_iadd hx hb d_MD_through_45 ?_
      refine lv_istore_n hx hb d_MD_through_46 rfl hl (by decide) rfl (fun ls hl => ?_)
      have hl : lv_has ls 4 [(3, .int (((v 23 0 i) - (v 23 0 j)) + (v 35 0 ((7 * j) + i)))), (0, .ref (qa_a y 22 0)), (1, .int (nI j)), (2, .int (nI i))] := hl
      refine lv_iload_n hx hb d_MD_through_47 rfl (lv_at hl 0 rfl) ?_
      refine lv_aload_n hx hb d_MD_through_48 rfl (lv_at hl 1 rfl) ?_
      refine qa_get (k := 22) (i := 0) (f := 2) (val := .int (qa_d y)) E hC Nat.one_pos rfl rfl (by decide) f_MD_80 rfl rfl d_MD_through_49 ?_
      refine lv_bipush (v := 20) hx hb d_MD_through_52 (by decide) ?_
      refine lv_iadd hx hb d_MD_through_54 ?_
      refine lv_ineg hx hb d_MD_through_55 ?_
      refine lv_icmp_lt hx hb d_MD_through_56 rfl (fun h56 => ?_) (fun h56 => ?_)
      · refine lv_iconst (v := 0) hx hb d_MD_through_74 (by decide) ?_
        exact qa_zret hx hb hr hlocks (qb_0 (by unfold qm_hr; rw [← q28, ← q26, qb_n0 h6, decide_eq_false h16, ← q23i, ← q23j, ← q35]; rw [qm_wi_f1 (qm_nle h56)]; rfl)) rfl d_MD_through_75
      · refine lv_iload_n hx hb d_MD_through_59 rfl (lv_at hl 0 rfl) ?_
        refine lv_aload_n hx hb d_MD_through_60 rfl (lv_at hl 1 rfl) ?_
        refine qa_get (k := 22) (i := 0) (f := 2) (val := .int (qa_d y)) E hC Nat.one_pos rfl rfl (by decide) f_MD_80 rfl rfl d_MD_through_61 ?_
        refine lv_bipush (v := 20) hx hb d_MD_through_64 (by decide) ?_
        refine lv_iadd hx hb d_MD_through_66 ?_
        refine lv_icmp_gt hx hb d_MD_through_67 rfl (fun h67 => ?_) (fun h67 => ?_)
        · refine lv_iconst (v := 0) hx hb d_MD_through_74 (by decide) ?_
          exact qa_zret hx hb hr hlocks (qb_0 (by unfold qm_hr; rw [← q28, ← q26, qb_n0 h6, decide_eq_false h16, ← q23i, ← q23j, ← q35]; rw [qm_wi_f2 (qm_nle h67)]; rfl)) rfl d_MD_through_75
        · refine lv_iconst (v := 1) hx hb d_MD_through_70 (by decide) ?_
          refine lv_goto hx hb d_MD_through_71 rfl ?_
          exact qa_zret hx hb hr hlocks (qb_1 (by unfold qm_hr; rw [← q28, ← q26, qb_n0 h6, decide_eq_false h16, ← q23i, ← q23j, ← q35]; rw [qm_wi_t (qm_nlt h56) (qm_nlt h67)]; rfl)) rfl d_MD_through_75
    · refine lv_iconst (v := 0) hx hb d_MD_through_19 (by decide) ?_
      exact qa_zret hx hb hr hlocks (qb_0 (by unfold qm_hr; rw [← q26, decide_eq_true h16]; simp)) rfl d_MD_through_20

set_option maxHeartbeats 4000000 in
set_option maxRecDepth 100000 in
theorem c_MD_says (l : Launch) (y : qa_L) (v : qa_M) (j i : Nat) (x : Int32) (hj : j < qa_n y) (hi : i < qa_n y) (w : qa_M) (hR : qm_RM (qa_n y) w v) (hF : qm_fok w) : qa_Pu l y_MD_says b_MD_says 5 (some .int) 0 [.ref (qa_a y 22 0), .int (nI j), .int (nI i), .int x] (qa_W y v) (qm_says (w 2 j 9) (w 2 j 10) x (nI i) (w 0 0 11)) := by
  refine qa_ofPu (plainFor_of_name (by decide)) (Nat.le_of_ble_eq_true rfl) ?_
  intro p e s m below meth c ls F hr hlocks hW hl
  have E : qa_E p m c b_MD_says 5 s _ "VotedFramesModel" y := ⟨F, hW.2⟩
  have hC : qa_C y v s s.heap [] := ⟨hW.1, va_S.rf⟩
  have hx := F.1
  have hb := F.2.1
  have hown : s.vm.findClass "VotedFramesModel" = some m.cls := F.2.2.2.1
  have hts := F.2.2.2.2
  have hn4 : 4 ≤ qa_n y := E.2.1.2.2.1
  have hn7 : qa_n y ≤ 7 := E.2.1.2.2.2.1
  have hl : lv_has ls 5 [(0, .ref (qa_a y 22 0)), (1, .int (nI j)), (2, .int (nI i)), (3, .int x)] := hl
  have q26 := qr_knd hR hj
  have q27 := qr_ext hR hj
  have q3 := qr_frm hR
  obtain ⟨F, hF, eF⟩ := hF
  rw [eF] at q3
  rw [eF, ← q26, ← q27]
  refine lv_aload_n hx hb d_MD_says_0 rfl (lv_at hl 0 rfl) ?_
  refine qa_get (k := 22) (i := 0) (f := 9) (val := .ref (qa_a y 27 0)) E hC Nat.one_pos rfl rfl (by decide) f_MD_22 rfl rfl d_MD_says_1 ?_
  refine lv_iload_n hx hb d_MD_says_4 rfl (lv_at hl 1 rfl) ?_
  refine qa_ild (k := 27) (i := 0) (j := j) E hC Nat.one_pos rfl rfl rfl (show j < 7 by omega) d_MD_says_5 ?_
  refine lv_istore hx hb d_MD_says_6 hl (by decide) rfl (fun ls hl => ?_)
  have hl : lv_has ls 5 [(4, .int (v 27 0 j)), (0, .ref (qa_a y 22 0)), (1, .int (nI j)), (2, .int (nI i)), (3, .int x)] := hl
  refine lv_aload_n hx hb d_MD_says_8 rfl (lv_at hl 1 rfl) ?_
  refine qa_get (k := 22) (i := 0) (f := 8) (val := .ref (qa_a y 26 0)) E hC Nat.one_pos rfl rfl (by decide) f_MD_19 rfl rfl d_MD_says_9 ?_
  refine lv_iload_n hx hb d_MD_says_12 rfl (lv_at hl 2 rfl) ?_
  refine qa_ild (k := 26) (i := 0) (j := j) E hC Nat.one_pos rfl rfl rfl (show j < 7 by omega) d_MD_says_13 ?_
  rcases qm_sw25 (v 26 0 j) with k14 | k14 | k14 | k14 | k14
  · refine lv_tableIn (off := 30) (tgt := 44) hx hb d_MD_says_14 (by rw [k14]; decide) (by rw [k14]; decide) (by rw [k14]; rfl) rfl ?_
    refine lv_iload hx hb d_MD_says_44 (lv_at hl 0 rfl) ?_
    exact qa_iret hx hb hr hlocks (by unfold qm_says; rw [if_pos k14]) d_MD_says_46
  · refine lv_tableIn (off := 33) (tgt := 47) hx hb d_MD_says_14 (by rw [k14]; decide) (by rw [k14]; decide) (by rw [k14]; rfl) rfl ?_
    refine lv_iload_n hx hb d_MD_says_47 rfl (lv_at hl 3 rfl) ?_
    refine lv_iconst (v := 2) hx hb d_MD_says_48 (by decide) ?_
    refine lv_irem hx hb d_MD_says_49 qm_div2 ?_
    refine lv_iconst (v := 1) hx hb d_MD_says_50 (by decide) ?_
    refine lv_icmp_ne hx hb d_MD_says_51 rfl (fun h51 => ?_) (fun h51 => ?_)
    · refine lv_iload_n hx hb d_MD_says_61 rfl (lv_at hl 4 rfl) ?_
      exact qa_iret hx hb hr hlocks (by unfold qm_says; rw [if_neg (by rw [k14]; decide), if_pos k14, if_pos (qm_odd0 (by omega) h51)]) d_MD_says_62
    · refine lv_iload_n hx hb d_MD_says_54 rfl (lv_at hl 4 rfl) ?_
      refine lv_iload hx hb d_MD_says_55 (lv_at hl 0 rfl) ?_
      refine lv_iadd hx hb d_MD_says_57 ?_
      refine lv_goto hx hb d_MD_says_58 rfl ?_
      exact qa_iret hx hb hr hlocks (by unfold qm_says; rw [if_neg (by rw [k14]; decide), if_pos k14, if_neg (qm_odd1 (by omega) h51)]) d_MD_says_62
  · refine lv_tableIn (off := 49) (tgt := 63) hx hb d_MD_says_14 (by rw [k14]; decide) (by rw [k14]; decide) (by rw [k14]; rfl) rfl ?_
    refine lv_iload_n hx hb d_MD_says_63 rfl (lv_at hl 4 rfl) ?_
    refine lv_iload hx hb d_MD_says_64 (lv_at hl 0 rfl) ?_
    refine lv_iload_n hx hb d_MD_says_66 rfl (lv_at hl 3 rfl) ?_
    refine lv_iconst (v := 1) hx hb d_MD_says_67 (by decide) ?_
    refine lv_iadd hx hb d_MD_says_68 ?_
    refine lv_imul hx hb d_MD_says_69 ?_
    refine lv_iadd hx hb d_MD_says_70 ?_
    exact qa_iret hx hb hr hlocks (by unfold qm_says; rw [if_neg (by rw [k14]; decide), if_neg (by rw [k14]; decide), if_pos k14]) d_MD_says_71
  · refine lv_tableIn (off := 58) (tgt := 72) hx hb d_MD_says_14 (by rw [k14]; decide) (by rw [k14]; decide) (by rw [k14]; rfl) rfl ?_
    refine lv_aload_n hx hb d_MD_says_72 rfl (lv_at hl 1 rfl) ?_
    refine qa_get (k := 22) (i := 0) (f := 3) (val := .int (v 22 0 3)) E hC Nat.one_pos rfl rfl (by decide) f_MD_94 rfl rfl d_MD_says_73 ?_
    rw [q3]
    refine lv_iconst (v := 2) hx hb d_MD_says_76 (by decide) ?_
    refine lv_irem hx hb d_MD_says_77 qm_div2 ?_
    refine lv_iconst (v := 1) hx hb d_MD_says_78 (by decide) ?_
    refine lv_icmp_ne hx hb d_MD_says_79 rfl (fun h79 => ?_) (fun h79 => ?_)
    · refine lv_iload_n hx hb d_MD_says_87 rfl (lv_at hl 4 rfl) ?_
      exact qa_iret hx hb hr hlocks (by unfold qm_says; rw [if_neg (by rw [k14]; decide), if_neg (by rw [k14]; decide), if_neg (by rw [k14]; decide), if_pos k14, if_pos (qm_odd0 hF h79)]) d_MD_says_88
    · refine lv_iload hx hb d_MD_says_82 (lv_at hl 0 rfl) ?_
      refine lv_goto hx hb d_MD_says_84 rfl ?_
      exact qa_iret hx hb hr hlocks (by unfold qm_says; rw [if_neg (by rw [k14]; decide), if_neg (by rw [k14]; decide), if_neg (by rw [k14]; decide), if_pos k14, if_neg (qm_odd1 hF h79)]) d_MD_says_88
  · refine lv_tableOut (tgt := 89) hx hb d_MD_says_14 k14 rfl ?_
    refine lv_iload_n hx hb d_MD_says_89 rfl (lv_at hl 4 rfl) ?_
    exact qa_iret hx hb hr hlocks (by unfold qm_says; rw [if_neg (qm_out_ne k14 (by decide) (by decide)), if_neg (qm_out_ne k14 (by decide) (by decide)), if_neg (qm_out_ne k14 (by decide) (by decide)), if_neg (qm_out_ne k14 (by decide) (by decide))]) d_MD_says_90

set_option maxHeartbeats 4000000 in
set_option maxRecDepth 100000 in
theorem c_MD_sent (l : Launch) (y : qa_L) (v : qa_M) (j i : Nat) (x : Int32) (hj : j < qa_n y) (hi : i < qa_n y) (w : qa_M) (hR : qm_RM (qa_n y) w v) (hF : qm_fok w) : qa_Pu l y_MD_sent b_MD_sent 4 (some .int) 2 [.ref (qa_a y 22 0), .int (nI j), .int (nI i), .int x] (qa_W y v) (qm_g y w j x i) := by
  refine qa_ofPu (plainFor_of_name (by decide)) (Nat.le_of_ble_eq_true rfl) ?_
  intro p e s m below meth c ls F hr hlocks hW hl
  have E : qa_E p m c b_MD_sent 4 s _ "VotedFramesModel" y := ⟨F, hW.2⟩
  have hC : qa_C y v s s.heap [] := ⟨hW.1, va_S.rf⟩
  have hx := F.1
  have hb := F.2.1
  have hown : s.vm.findClass "VotedFramesModel" = some m.cls := F.2.2.2.1
  have hts := F.2.2.2.2
  have hn4 : 4 ≤ qa_n y := E.2.1.2.2.1
  have hn7 : qa_n y ≤ 7 := E.2.1.2.2.2.1
  have hl : lv_has ls 4 [(0, .ref (qa_a y 22 0)), (1, .int (nI j)), (2, .int (nI i)), (3, .int x)] := hl
  refine lv_aload_n hx hb d_MD_sent_0 rfl (lv_at hl 0 rfl) ?_
  refine lv_iload_n hx hb d_MD_sent_1 rfl (lv_at hl 1 rfl) ?_
  refine lv_iload_n hx hb d_MD_sent_2 rfl (lv_at hl 2 rfl) ?_
  refine qa_pV (k := 22) (i := 0) (As := [.int (nI j), .int (nI i)]) E hC (c_MD_through l y v j i hj hi w hR) Nat.one_pos rfl rfl k_MD_97 (qa_fitR (by decide) (by decide)) rfl hl.1 rfl (Nat.le_of_ble_eq_true rfl) d_MD_sent_3 ?_
  refine lv_if_eq hx hb d_MD_sent_6 rfl (fun h6 => ?_) (fun h6 => ?_)
  · refine lv_iconst (v := 0) hx hb d_MD_sent_19 (by decide) ?_
    exact qa_iret hx hb hr hlocks (by unfold qm_g; rw [if_neg]; rw [qb_e0 h6]; decide) d_MD_sent_20
  · refine lv_aload_n hx hb d_MD_sent_9 rfl (lv_at hl 0 rfl) ?_
    refine lv_iload_n hx hb d_MD_sent_10 rfl (lv_at hl 1 rfl) ?_
    refine lv_iload_n hx hb d_MD_sent_11 rfl (lv_at hl 2 rfl) ?_
    refine lv_iload_n hx hb d_MD_sent_12 rfl (lv_at hl 3 rfl) ?_
    refine qa_pV (k := 22) (i := 0) (As := [.int (nI j), .int (nI i), .int x]) E hC (c_MD_says l y v j i x hj hi w hR hF) Nat.one_pos rfl rfl k_MD_100 (qa_fitR (by decide) (by decide)) rfl hl.1 rfl (Nat.le_of_ble_eq_true rfl) d_MD_sent_13 ?_
    refine lv_goto hx hb d_MD_sent_16 rfl ?_
    exact qa_iret hx hb hr hlocks (by unfold qm_g; rw [if_pos (qb_n0 h6)]) d_MD_sent_20

set_option maxHeartbeats 4000000 in
set_option maxRecDepth 100000 in
theorem c_MD_holds1 (l : Launch) (y : qa_L) (v : qa_M) (i s0 : Nat) (x : Int32) (hi : i < qa_n y) (hs0 : s0 < qa_n y) (w : qa_M) (hR : qm_RM (qa_n y) w v) (hF : qm_fok w) : qa_Pu l y_MD_holds b_MD_holds 8 (some .int) 3 [.ref (qa_a y 22 0), .int (nI i), .int (nI s0), .int (-1), .int (-1), .int x] (qa_W y v) (qm_g y w s0 x i) := by
  refine qa_ofPu (plainFor_of_name (by decide)) (Nat.le_of_ble_eq_true rfl) ?_
  intro p e s m below meth c ls F hr hlocks hW hl
  have E : qa_E p m c b_MD_holds 8 s _ "VotedFramesModel" y := ⟨F, hW.2⟩
  have hC : qa_C y v s s.heap [] := ⟨hW.1, va_S.rf⟩
  have hx := F.1
  have hb := F.2.1
  have hown : s.vm.findClass "VotedFramesModel" = some m.cls := F.2.2.2.1
  have hts := F.2.2.2.2
  have hn4 : 4 ≤ qa_n y := E.2.1.2.2.1
  have hn7 : qa_n y ≤ 7 := E.2.1.2.2.2.1
  have hl : lv_has ls 8 [(0, .ref (qa_a y 22 0)), (1, .int (nI i)), (2, .int (nI s0)), (3, .int (-1)), (4, .int (-1)), (5, .int x)] := hl
  refine lv_iload hx hb d_MD_holds_0 (lv_at hl 5 rfl) ?_
  refine lv_istore hx hb d_MD_holds_2 hl (by decide) rfl (fun ls hl => ?_)
  have hl : lv_has ls 8 [(6, .int x), (0, .ref (qa_a y 22 0)), (1, .int (nI i)), (2, .int (nI s0)), (3, .int (-1)), (4, .int (-1)), (5, .int x)] := hl
  refine lv_iload_n hx hb d_MD_holds_4 rfl (lv_at hl 3 rfl) ?_
  refine lv_istore hx hb d_MD_holds_5 hl (by decide) rfl (fun ls hl => ?_)
  have hl : lv_has ls 8 [(7, .int (nI s0)), (6, .int x), (0, .ref (qa_a y 22 0)), (1, .int (nI i)), (2, .int (nI s0)), (3, .int (-1)), (4, .int (-1)), (5, .int x)] := hl
  refine lv_iload_n hx hb d_MD_holds_7 rfl (lv_at hl 5 rfl) ?_
  refine lv_if_lt hx hb d_MD_holds_8 rfl (fun _ => ?_) (fun h9 => absurd (by decide) h9)
  refine lv_iload hx hb d_MD_holds_25 (lv_at hl 6 rfl) ?_
  refine lv_if_lt hx hb d_MD_holds_27 rfl (fun _ => ?_) (fun h9 => absurd (by decide) h9)
  refine lv_aload_n hx hb d_MD_holds_46 rfl (lv_at hl 2 rfl) ?_
  refine lv_iload hx hb d_MD_holds_47 (lv_at hl 0 rfl) ?_
  refine lv_iload_n hx hb d_MD_holds_49 rfl (lv_at hl 3 rfl) ?_
  refine lv_iload hx hb d_MD_holds_50 (lv_at hl 1 rfl) ?_
  refine qa_pV (k := 22) (i := 0) (As := [.int (nI s0), .int (nI i), .int x]) E hC (c_MD_sent l y v s0 i x hs0 hi w hR hF) Nat.one_pos rfl rfl k_MD_104 (qa_fitR (by decide) (by decide)) rfl hl.1 rfl (Nat.le_of_ble_eq_true rfl) d_MD_holds_52 ?_
  exact qa_iret hx hb hr hlocks rfl d_MD_holds_55

set_option maxHeartbeats 4000000 in
set_option maxRecDepth 100000 in
theorem c_MD_holds2 (l : Launch) (y : qa_L) (v : qa_M) (i s0 a0 : Nat) (x : Int32) (hi : i < qa_n y) (hs0 : s0 < qa_n y) (ha0 : a0 < qa_n y) (w : qa_M) (hR : qm_RM (qa_n y) w v) (hF : qm_fok w) : qa_Pu l y_MD_holds b_MD_holds 8 (some .int) 3 [.ref (qa_a y 22 0), .int (nI i), .int (nI s0), .int (nI a0), .int (-1), .int x] (qa_W y v) (qm_g y w a0 (qm_g y w s0 x a0) i) := by
  refine qa_ofPu (plainFor_of_name (by decide)) (Nat.le_of_ble_eq_true rfl) ?_
  intro p e s m below meth c ls F hr hlocks hW hl
  have E : qa_E p m c b_MD_holds 8 s _ "VotedFramesModel" y := ⟨F, hW.2⟩
  have hC : qa_C y v s s.heap [] := ⟨hW.1, va_S.rf⟩
  have hx := F.1
  have hb := F.2.1
  have hown : s.vm.findClass "VotedFramesModel" = some m.cls := F.2.2.2.1
  have hts := F.2.2.2.2
  have hn4 : 4 ≤ qa_n y := E.2.1.2.2.1
  have hn7 : qa_n y ≤ 7 := E.2.1.2.2.2.1
  have hl : lv_has ls 8 [(0, .ref (qa_a y 22 0)), (1, .int (nI i)), (2, .int (nI s0)), (3, .int (nI a0)), (4, .int (-1)), (5, .int x)] := hl
  refine lv_iload hx hb d_MD_holds_0 (lv_at hl 5 rfl) ?_
  refine lv_istore hx hb d_MD_holds_2 hl (by decide) rfl (fun ls hl => ?_)
  have hl : lv_has ls 8 [(6, .int x), (0, .ref (qa_a y 22 0)), (1, .int (nI i)), (2, .int (nI s0)), (3, .int (nI a0)), (4, .int (-1)), (5, .int x)] := hl
  refine lv_iload_n hx hb d_MD_holds_4 rfl (lv_at hl 3 rfl) ?_
  refine lv_istore hx hb d_MD_holds_5 hl (by decide) rfl (fun ls hl => ?_)
  have hl : lv_has ls 8 [(7, .int (nI s0)), (6, .int x), (0, .ref (qa_a y 22 0)), (1, .int (nI i)), (2, .int (nI s0)), (3, .int (nI a0)), (4, .int (-1)), (5, .int x)] := hl
  refine lv_iload_n hx hb d_MD_holds_7 rfl (lv_at hl 5 rfl) ?_
  refine lv_if_lt hx hb d_MD_holds_8 rfl (fun h9 => absurd h9 (nI_pos (by omega))) (fun _ => ?_)
  refine lv_aload_n hx hb d_MD_holds_11 rfl (lv_at hl 2 rfl) ?_
  refine lv_iload hx hb d_MD_holds_12 (lv_at hl 0 rfl) ?_
  refine lv_iload_n hx hb d_MD_holds_14 rfl (lv_at hl 5 rfl) ?_
  refine lv_iload hx hb d_MD_holds_15 (lv_at hl 1 rfl) ?_
  refine qa_pV (k := 22) (i := 0) (As := [.int (nI s0), .int (nI a0), .int x]) E hC (c_MD_sent l y v s0 a0 x hs0 ha0 w hR hF) Nat.one_pos rfl rfl k_MD_104 (qa_fitR (by decide) (by decide)) rfl hl.1 rfl (Nat.le_of_ble_eq_true rfl) d_MD_holds_17 ?_
  refine lv_istore hx hb d_MD_holds_20 hl (by decide) rfl (fun ls hl => ?_)
  have hl : lv_has ls 8 [(6, .int (qm_g y w s0 x a0)), (7, .int (nI s0)), (0, .ref (qa_a y 22 0)), (1, .int (nI i)), (2, .int (nI s0)), (3, .int (nI a0)), (4, .int (-1)), (5, .int x)] := hl
  refine lv_iload_n hx hb d_MD_holds_22 rfl (lv_at hl 5 rfl) ?_
  refine lv_istore hx hb d_MD_holds_23 hl (by decide) rfl (fun ls hl => ?_)
  have hl : lv_has ls 8 [(7, .int (nI a0)), (6, .int (qm_g y w s0 x a0)), (0, .ref (qa_a y 22 0)), (1, .int (nI i)), (2, .int (nI s0)), (3, .int (nI a0)), (4, .int (-1)), (5, .int x)] := hl
  refine lv_iload hx hb d_MD_holds_25 (lv_at hl 6 rfl) ?_
  refine lv_if_lt hx hb d_MD_holds_27 rfl (fun _ => ?_) (fun h9 => absurd (by decide) h9)
  refine lv_aload_n hx hb d_MD_holds_46 rfl (lv_at hl 2 rfl) ?_
  refine lv_iload hx hb d_MD_holds_47 (lv_at hl 0 rfl) ?_
  refine lv_iload_n hx hb d_MD_holds_49 rfl (lv_at hl 3 rfl) ?_
  refine lv_iload hx hb d_MD_holds_50 (lv_at hl 1 rfl) ?_
  refine qa_pV (k := 22) (i := 0) (As := [.int (nI a0), .int (nI i), .int (qm_g y w s0 x a0)]) E hC (c_MD_sent l y v a0 i (qm_g y w s0 x a0) ha0 hi w hR hF) Nat.one_pos rfl rfl k_MD_104 (qa_fitR (by decide) (by decide)) rfl hl.1 rfl (Nat.le_of_ble_eq_true rfl) d_MD_holds_52 ?_
  exact qa_iret hx hb hr hlocks rfl d_MD_holds_55

set_option maxHeartbeats 4000000 in
set_option maxRecDepth 100000 in
theorem c_MD_holds3 (l : Launch) (y : qa_L) (v : qa_M) (i s0 a0 b0 : Nat) (x : Int32) (hi : i < qa_n y) (hs0 : s0 < qa_n y) (ha0 : a0 < qa_n y) (hb0 : b0 < qa_n y) (w : qa_M) (hR : qm_RM (qa_n y) w v) (hF : qm_fok w) : qa_Pu l y_MD_holds b_MD_holds 8 (some .int) 3 [.ref (qa_a y 22 0), .int (nI i), .int (nI s0), .int (nI a0), .int (nI b0), .int x] (qa_W y v) (qm_g y w b0 (qm_g y w a0 (qm_g y w s0 x a0) b0) i) := by
  refine qa_ofPu (plainFor_of_name (by decide)) (Nat.le_of_ble_eq_true rfl) ?_
  intro p e s m below meth c ls F hr hlocks hW hl
  have E : qa_E p m c b_MD_holds 8 s _ "VotedFramesModel" y := ⟨F, hW.2⟩
  have hC : qa_C y v s s.heap [] := ⟨hW.1, va_S.rf⟩
  have hx := F.1
  have hb := F.2.1
  have hown : s.vm.findClass "VotedFramesModel" = some m.cls := F.2.2.2.1
  have hts := F.2.2.2.2
  have hn4 : 4 ≤ qa_n y := E.2.1.2.2.1
  have hn7 : qa_n y ≤ 7 := E.2.1.2.2.2.1
  have hl : lv_has ls 8 [(0, .ref (qa_a y 22 0)), (1, .int (nI i)), (2, .int (nI s0)), (3, .int (nI a0)), (4, .int (nI b0)), (5, .int x)] := hl
  refine lv_iload hx hb d_MD_holds_0 (lv_at hl 5 rfl) ?_
  refine lv_istore hx hb d_MD_holds_2 hl (by decide) rfl (fun ls hl => ?_)
  have hl : lv_has ls 8 [(6, .int x), (0, .ref (qa_a y 22 0)), (1, .int (nI i)), (2, .int (nI s0)), (3, .int (nI a0)), (4, .int (nI b0)), (5, .int x)] := hl
  refine lv_iload_n hx hb d_MD_holds_4 rfl (lv_at hl 3 rfl) ?_
  refine lv_istore hx hb d_MD_holds_5 hl (by decide) rfl (fun ls hl => ?_)
  have hl : lv_has ls 8 [(7, .int (nI s0)), (6, .int x), (0, .ref (qa_a y 22 0)), (1, .int (nI i)), (2, .int (nI s0)), (3, .int (nI a0)), (4, .int (nI b0)), (5, .int x)] := hl
  refine lv_iload_n hx hb d_MD_holds_7 rfl (lv_at hl 5 rfl) ?_
  refine lv_if_lt hx hb d_MD_holds_8 rfl (fun h9 => absurd h9 (nI_pos (by omega))) (fun _ => ?_)
  refine lv_aload_n hx hb d_MD_holds_11 rfl (lv_at hl 2 rfl) ?_
  refine lv_iload hx hb d_MD_holds_12 (lv_at hl 0 rfl) ?_
  refine lv_iload_n hx hb d_MD_holds_14 rfl (lv_at hl 5 rfl) ?_
  refine lv_iload hx hb d_MD_holds_15 (lv_at hl 1 rfl) ?_
  refine qa_pV (k := 22) (i := 0) (As := [.int (nI s0), .int (nI a0), .int x]) E hC (c_MD_sent l y v s0 a0 x hs0 ha0 w hR hF) Nat.one_pos rfl rfl k_MD_104 (qa_fitR (by decide) (by decide)) rfl hl.1 rfl (Nat.le_of_ble_eq_true rfl) d_MD_holds_17 ?_
  refine lv_istore hx hb d_MD_holds_20 hl (by decide) rfl (fun ls hl => ?_)
  have hl : lv_has ls 8 [(6, .int (qm_g y w s0 x a0)), (7, .int (nI s0)), (0, .ref (qa_a y 22 0)), (1, .int (nI i)), (2, .int (nI s0)), (3, .int (nI a0)), (4, .int (nI b0)), (5, .int x)] := hl
  refine lv_iload_n hx hb d_MD_holds_22 rfl (lv_at hl 5 rfl) ?_
  refine lv_istore hx hb d_MD_holds_23 hl (by decide) rfl (fun ls hl => ?_)
  have hl : lv_has ls 8 [(7, .int (nI a0)), (6, .int (qm_g y w s0 x a0)), (0, .ref (qa_a y 22 0)), (1, .int (nI i)), (2, .int (nI s0)), (3, .int (nI a0)), (4, .int (nI b0)), (5, .int x)] := hl
  refine lv_iload hx hb d_MD_holds_25 (lv_at hl 6 rfl) ?_
  refine lv_if_lt hx hb d_MD_holds_27 rfl (fun h9 => absurd h9 (nI_pos (by omega))) (fun _ => ?_)
  refine lv_aload_n hx hb d_MD_holds_30 rfl (lv_at hl 2 rfl) ?_
  refine lv_iload hx hb d_MD_holds_31 (lv_at hl 0 rfl) ?_
  refine lv_iload hx hb d_MD_holds_33 (lv_at hl 6 rfl) ?_
  refine lv_iload hx hb d_MD_holds_35 (lv_at hl 1 rfl) ?_
  refine qa_pV (k := 22) (i := 0) (As := [.int (nI a0), .int (nI b0), .int (qm_g y w s0 x a0)]) E hC (c_MD_sent l y v a0 b0 (qm_g y w s0 x a0) ha0 hb0 w hR hF) Nat.one_pos rfl rfl k_MD_104 (qa_fitR (by decide) (by decide)) rfl hl.1 rfl (Nat.le_of_ble_eq_true rfl) d_MD_holds_37 ?_
  refine lv_istore hx hb d_MD_holds_40 hl (by decide) rfl (fun ls hl => ?_)
  have hl : lv_has ls 8 [(6, .int (qm_g y w a0 (qm_g y w s0 x a0) b0)), (7, .int (nI a0)), (0, .ref (qa_a y 22 0)), (1, .int (nI i)), (2, .int (nI s0)), (3, .int (nI a0)), (4, .int (nI b0)), (5, .int x)] := hl
  refine lv_iload hx hb d_MD_holds_42 (lv_at hl 6 rfl) ?_
  refine lv_istore hx hb d_MD_holds_44 hl (by decide) rfl (fun ls hl => ?_)
  have hl : lv_has ls 8 [(7, .int (nI b0)), (6, .int (qm_g y w a0 (qm_g y w s0 x a0) b0)), (0, .ref (qa_a y 22 0)), (1, .int (nI i)), (2, .int (nI s0)), (3, .int (nI a0)), (4, .int (nI b0)), (5, .int x)] := hl
  refine lv_aload_n hx hb d_MD_holds_46 rfl (lv_at hl 2 rfl) ?_
  refine lv_iload hx hb d_MD_holds_47 (lv_at hl 0 rfl) ?_
  refine lv_iload_n hx hb d_MD_holds_49 rfl (lv_at hl 3 rfl) ?_
  refine lv_iload hx hb d_MD_holds_50 (lv_at hl 1 rfl) ?_
  refine qa_pV (k := 22) (i := 0) (As := [.int (nI b0), .int (nI i), .int (qm_g y w a0 (qm_g y w s0 x a0) b0)]) E hC (c_MD_sent l y v b0 i (qm_g y w a0 (qm_g y w s0 x a0) b0) hb0 hi w hR hF) Nat.one_pos rfl rfl k_MD_104 (qa_fitR (by decide) (by decide)) rfl hl.1 rfl (Nat.le_of_ble_eq_true rfl) d_MD_holds_52 ?_
  exact qa_iret hx hb hr hlocks rfl d_MD_holds_55

set_option maxHeartbeats 4000000 in
set_option maxRecDepth 100000 in
theorem c_MD_bears_i (l : Launch) (y : qa_L) (v : qa_M) (i : Nat) (hi : i < qa_n y) (hmk : ∀ i, i < qa_n y → ∃ a, a < 2 ^ qa_n y ∧ v 28 0 i = nI a) : qa_Pu l y_MD_bears b_MD_bears 3 (some .int) 2 [.ref (qa_a y 22 0), .int (nI i)] (qa_W y v) (qm_bear (qa_m y) (v 28 0 i)) := by
  refine qa_ofPu (plainFor_of_name (by decide)) (Nat.le_of_ble_eq_true rfl) ?_
  intro p e s m below meth c ls F hr hlocks hW hl
  have E : qa_E p m c b_MD_bears 3 s _ "VotedFramesModel" y := ⟨F, hW.2⟩
  have hC : qa_C y v s s.heap [] := ⟨hW.1, va_S.rf⟩
  have hx := F.1
  have hb := F.2.1
  have hown : s.vm.findClass "VotedFramesModel" = some m.cls := F.2.2.2.1
  have hts := F.2.2.2.2
  have hn4 : 4 ≤ qa_n y := E.2.1.2.2.1
  have hn7 : qa_n y ≤ 7 := E.2.1.2.2.2.1
  have hl : lv_has ls 3 [(0, .ref (qa_a y 22 0)), (1, .int (nI i))] := hl
  have g1 : qm_isn (qa_n y) (nI i) = true := qm_wi_j (by omega) hi
  refine lv_aload_n hx hb d_MD_bears_0 rfl (lv_at hl 0 rfl) ?_
  refine lv_iload_n hx hb d_MD_bears_1 rfl (lv_at hl 1 rfl) ?_
  refine qa_pV (k := 22) (i := 0) (As := [.int (nI i)]) E hC (c_MD_node l y v (nI i)) Nat.one_pos rfl rfl k_MD_83 (qa_fitR (by decide) (by decide)) rfl hl.1 rfl (Nat.le_of_ble_eq_true rfl) d_MD_bears_2 ?_
  refine lv_if_ne hx hb d_MD_bears_5 rfl (fun _ => ?_) (fun h9 => absurd h9 (qb_nz g1))
  refine lv_aload_n hx hb d_MD_bears_10 rfl (lv_at hl 0 rfl) ?_
  refine lv_iload_n hx hb d_MD_bears_11 rfl (lv_at hl 1 rfl) ?_
  refine qa_pV (k := 22) (i := 0) (As := [.int (nI i)]) E hC (c_MD_size l y v i hi) Nat.one_pos rfl rfl k_MD_142 (qa_fitR (by decide) (by decide)) rfl hl.1 rfl (Nat.le_of_ble_eq_true rfl) d_MD_bears_12 ?_
  refine lv_iconst (v := 1) hx hb d_MD_bears_15 (by decide) ?_
  refine lv_isub hx hb d_MD_bears_16 ?_
  refine lv_iconst (v := 3) hx hb d_MD_bears_17 (by decide) ?_
  refine lv_idiv hx hb d_MD_bears_18 qm_div3 ?_
  refine lv_istore_n hx hb d_MD_bears_19 rfl hl (by decide) rfl (fun ls hl => ?_)
  have hl : lv_has ls 3 [(2, .int (((nI (qm_pc (qa_n y) (v 28 0 i))) - 1) / 3)), (0, .ref (qa_a y 22 0)), (1, .int (nI i))] := hl
  refine lv_aload_n hx hb d_MD_bears_20 rfl (lv_at hl 1 rfl) ?_
  refine qa_get (k := 22) (i := 0) (f := 1) (val := .int (nI (qa_m y))) E hC Nat.one_pos rfl rfl (by decide) f_MD_77 rfl rfl d_MD_bears_21 ?_
  refine lv_iload_n hx hb d_MD_bears_24 rfl (lv_at hl 0 rfl) ?_
  refine lv_icmp_ge hx hb d_MD_bears_25 rfl (fun h25 => ?_) (fun h25 => ?_)
  · refine lv_iload_n hx hb d_MD_bears_35 rfl (lv_at hl 0 rfl) ?_
    exact qa_iret hx hb hr hlocks (by rw [qm_bear_m hn4 hn7 (hmk i hi), ← qm_min_c, if_neg (qm_nlt2 h25)]) d_MD_bears_36
  · refine lv_aload_n hx hb d_MD_bears_28 rfl (lv_at hl 1 rfl) ?_
    refine qa_get (k := 22) (i := 0) (f := 1) (val := .int (nI (qa_m y))) E hC Nat.one_pos rfl rfl (by decide) f_MD_77 rfl rfl d_MD_bears_29 ?_
    refine lv_goto hx hb d_MD_bears_32 rfl ?_
    exact qa_iret hx hb hr hlocks (by rw [qm_bear_m hn4 hn7 (hmk i hi), ← qm_min_c, if_pos (qm_lt h25)]) d_MD_bears_36

set_option maxHeartbeats 4000000 in
set_option maxRecDepth 100000 in
theorem c_MD_bears (l : Launch) (y : qa_L) (v : qa_M) (z : Int32) (hmk : ∀ i, i < qa_n y → ∃ a, a < 2 ^ qa_n y ∧ v 28 0 i = nI a) : qa_Pu l y_MD_bears b_MD_bears 3 (some .int) 2 [.ref (qa_a y 22 0), .int z] (qa_W y v) (if qm_isn (qa_n y) z = true then qm_bear (qa_m y) (v 28 0 (qm_ix z)) else 0) := by
  refine qa_ofPu (plainFor_of_name (by decide)) (Nat.le_of_ble_eq_true rfl) ?_
  intro p e s m below meth c ls F hr hlocks hW hl
  have E : qa_E p m c b_MD_bears 3 s _ "VotedFramesModel" y := ⟨F, hW.2⟩
  have hC : qa_C y v s s.heap [] := ⟨hW.1, va_S.rf⟩
  have hx := F.1
  have hb := F.2.1
  have hown : s.vm.findClass "VotedFramesModel" = some m.cls := F.2.2.2.1
  have hts := F.2.2.2.2
  have hn4 : 4 ≤ qa_n y := E.2.1.2.2.1
  have hn7 : qa_n y ≤ 7 := E.2.1.2.2.2.1
  have hl : lv_has ls 3 [(0, .ref (qa_a y 22 0)), (1, .int z)] := hl
  by_cases g1 : qm_isn (qa_n y) z = true
  · obtain ⟨i, hi, rfl⟩ := qm_wi_n (by omega) (by omega) g1
    have hl : lv_has ls 3 [(0, .ref (qa_a y 22 0)), (1, .int (nI i))] := hl
    refine lv_aload_n hx hb d_MD_bears_0 rfl (lv_at hl 0 rfl) ?_
    refine lv_iload_n hx hb d_MD_bears_1 rfl (lv_at hl 1 rfl) ?_
    refine qa_pV (k := 22) (i := 0) (As := [.int (nI i)]) E hC (c_MD_node l y v (nI i)) Nat.one_pos rfl rfl k_MD_83 (qa_fitR (by decide) (by decide)) rfl hl.1 rfl (Nat.le_of_ble_eq_true rfl) d_MD_bears_2 ?_
    refine lv_if_ne hx hb d_MD_bears_5 rfl (fun _ => ?_) (fun h9 => absurd h9 (qb_nz g1))
    refine lv_aload_n hx hb d_MD_bears_10 rfl (lv_at hl 0 rfl) ?_
    refine lv_iload_n hx hb d_MD_bears_11 rfl (lv_at hl 1 rfl) ?_
    refine qa_pV (k := 22) (i := 0) (As := [.int (nI i)]) E hC (c_MD_size l y v i hi) Nat.one_pos rfl rfl k_MD_142 (qa_fitR (by decide) (by decide)) rfl hl.1 rfl (Nat.le_of_ble_eq_true rfl) d_MD_bears_12 ?_
    refine lv_iconst (v := 1) hx hb d_MD_bears_15 (by decide) ?_
    refine lv_isub hx hb d_MD_bears_16 ?_
    refine lv_iconst (v := 3) hx hb d_MD_bears_17 (by decide) ?_
    refine lv_idiv hx hb d_MD_bears_18 qm_div3 ?_
    refine lv_istore_n hx hb d_MD_bears_19 rfl hl (by decide) rfl (fun ls hl => ?_)
    have hl : lv_has ls 3 [(2, .int (((nI (qm_pc (qa_n y) (v 28 0 i))) - 1) / 3)), (0, .ref (qa_a y 22 0)), (1, .int (nI i))] := hl
    refine lv_aload_n hx hb d_MD_bears_20 rfl (lv_at hl 1 rfl) ?_
    refine qa_get (k := 22) (i := 0) (f := 1) (val := .int (nI (qa_m y))) E hC Nat.one_pos rfl rfl (by decide) f_MD_77 rfl rfl d_MD_bears_21 ?_
    refine lv_iload_n hx hb d_MD_bears_24 rfl (lv_at hl 0 rfl) ?_
    refine lv_icmp_ge hx hb d_MD_bears_25 rfl (fun h25 => ?_) (fun h25 => ?_)
    · refine lv_iload_n hx hb d_MD_bears_35 rfl (lv_at hl 0 rfl) ?_
      exact qa_iret hx hb hr hlocks (by rw [if_pos g1, qm_ix_n (by omega), qm_bear_m hn4 hn7 (hmk i hi), ← qm_min_c, if_neg (qm_nlt2 h25)]) d_MD_bears_36
    · refine lv_aload_n hx hb d_MD_bears_28 rfl (lv_at hl 1 rfl) ?_
      refine qa_get (k := 22) (i := 0) (f := 1) (val := .int (nI (qa_m y))) E hC Nat.one_pos rfl rfl (by decide) f_MD_77 rfl rfl d_MD_bears_29 ?_
      refine lv_goto hx hb d_MD_bears_32 rfl ?_
      exact qa_iret hx hb hr hlocks (by rw [if_pos g1, qm_ix_n (by omega), qm_bear_m hn4 hn7 (hmk i hi), ← qm_min_c, if_pos (qm_lt h25)]) d_MD_bears_36
  · refine lv_aload_n hx hb d_MD_bears_0 rfl (lv_at hl 0 rfl) ?_
    refine lv_iload_n hx hb d_MD_bears_1 rfl (lv_at hl 1 rfl) ?_
    refine qa_pV (k := 22) (i := 0) (As := [.int z]) E hC (c_MD_node l y v z) Nat.one_pos rfl rfl k_MD_83 (qa_fitR (by decide) (by decide)) rfl hl.1 rfl (Nat.le_of_ble_eq_true rfl) d_MD_bears_2 ?_
    refine lv_if_ne hx hb d_MD_bears_5 rfl (fun h9 => absurd (qb_zf (Bool.eq_false_iff.mpr g1)) h9) (fun _ => ?_)
    refine lv_iconst (v := 0) hx hb d_MD_bears_8 (by decide) ?_
    exact qa_iret hx hb hr hlocks (by rw [if_neg g1]) d_MD_bears_9

set_option maxHeartbeats 4000000 in
set_option maxRecDepth 100000 in
theorem c_MD_majority0 (l : Launch) (y : qa_L) (v : qa_M) (b : List Int32) (hh : qm_hd (fun q => v 43 0 (0 + q)) b) (hb8 : b.length ≤ 8) : qa_Pu l y_MD_majority b_MD_majority 6 (some .int) 0 [.ref (qa_a y 22 0), .int 0, .int (nI (b.length))] (qa_W y v) (qm_maj b) := by
  refine qa_ofPu (plainFor_of_name (by decide)) (Nat.le_of_ble_eq_true rfl) ?_
  intro p e s m below meth c ls F hr hlocks hW hl
  have E : qa_E p m c b_MD_majority 6 s _ "VotedFramesModel" y := ⟨F, hW.2⟩
  have hC : qa_C y v s s.heap [] := ⟨hW.1, va_S.rf⟩
  have hx := F.1
  have hb := F.2.1
  have hown : s.vm.findClass "VotedFramesModel" = some m.cls := F.2.2.2.1
  have hts := F.2.2.2.2
  have hn4 : 4 ≤ qa_n y := E.2.1.2.2.1
  have hn7 : qa_n y ≤ 7 := E.2.1.2.2.2.1
  have hl : lv_has ls 6 [(0, .ref (qa_a y 22 0)), (1, .int 0), (2, .int (nI (b.length)))] := hl
  have hcs : ∀ k, qm_cs (fun q => v 43 0 (0 + q)) (v 43 0 (0 + k)) 0 b.length = b.count (v 43 0 (0 + k)) := fun k => by
    have := qm_hd_cs hh (p := 0) (by omega) (v 43 0 (0 + k))
    rw [Nat.sub_zero, List.drop_zero] at this
    exact this
  have hcl : ∀ x : Int32, b.count x ≤ b.length := fun x => List.count_le_length
  have loop : ∀ (d k : Nat) (ls : Array Slot), k + d = b.length → (∀ p, p < k → 2 * b.count (v 43 0 (0 + p)) ≤ b.length) → lv_has ls 6 [(3, .int (nI k)), (0, .ref (qa_a y 22 0)), (1, .int 0), (2, .int (nI (b.length)))] → W p l e (qa_R 0) s m [.ref (qa_a y 22 0), .int 0, .int (nI (b.length))].toArray below meth c s.heap [] 0 0 (MQ below (QcRead (qm_maj b)) [.ref (qa_a y 22 0), .int 0, .int (nI (b.length))].toArray s 0 0 (fun _ => False)) (F0 m 2 ls []) := by
    intro d
    induction d with
    | zero =>
      intro k ls hkd hI hl
      obtain rfl : b.length = k := by omega
      refine lv_iload_n hx hb d_MD_majority_2 rfl (lv_at hl 0 rfl) ?_
      refine lv_iload_n hx hb d_MD_majority_3 rfl (lv_at hl 3 rfl) ?_
      refine lv_icmp_ge hx hb d_MD_majority_4 rfl (fun _ => ?_) (fun h9 => absurd (nI_le (Nat.le_refl _) (by omega)) h9)
      refine lv_iconst (v := 0) hx hb d_MD_majority_79 (by decide) ?_
      exact qa_iret hx hb hr hlocks ((qm_maj_no (fun x hx => by
          obtain ⟨p9, hp9, e9⟩ := List.getElem_of_mem hx
          have h8 := hI p9 hp9
          have h7 := hh p9 hp9
          simp only [List.getD_eq_getElem?_getD, List.getElem?_eq_getElem hp9, Option.getD_some, e9] at h7
          rw [h7] at h8
          exact h8)).symm) d_MD_majority_80
    | succ d ih =>
      intro k ls hkd hI hl
      have hk : k < b.length := by omega
      refine lv_iload_n hx hb d_MD_majority_2 rfl (lv_at hl 0 rfl) ?_
      refine lv_iload_n hx hb d_MD_majority_3 rfl (lv_at hl 3 rfl) ?_
      refine lv_icmp_ge hx hb d_MD_majority_4 rfl (fun h9 => absurd h9 (nI_ge hk (by omega))) (fun _ => ?_)
      refine lv_iconst (v := 0) hx hb d_MD_majority_7 (by decide) ?_
      refine lv_istore hx hb d_MD_majority_8 hl (by decide) rfl (fun ls hl => ?_)
      have hl : lv_has ls 6 [(4, .int 0), (3, .int (nI k)), (0, .ref (qa_a y 22 0)), (1, .int 0), (2, .int (nI (b.length)))] := hl
      refine lv_iconst (v := 0) hx hb d_MD_majority_10 (by decide) ?_
      refine lv_istore hx hb d_MD_majority_11 hl (by decide) rfl (fun ls hl => ?_)
      have hl : lv_has ls 6 [(5, .int 0), (4, .int 0), (3, .int (nI k)), (0, .ref (qa_a y 22 0)), (1, .int 0), (2, .int (nI (b.length)))] := hl
      have hI1 := hI
      have loop2 : ∀ (d q : Nat) (ls : Array Slot), q + d = b.length → lv_has ls 6 [(5, .int (nI q)), (4, .int (nI (qm_cs (fun q => v 43 0 (0 + q)) (v 43 0 (0 + k)) 0 q))), (3, .int (nI k)), (0, .ref (qa_a y 22 0)), (1, .int 0), (2, .int (nI (b.length)))] → W p l e (qa_R 0) s m [.ref (qa_a y 22 0), .int 0, .int (nI (b.length))].toArray below meth c s.heap [] 0 0 (MQ below (QcRead (qm_maj b)) [.ref (qa_a y 22 0), .int 0, .int (nI (b.length))].toArray s 0 0 (fun _ => False)) (F0 m 13 ls []) := by
        intro d
        induction d with
        | zero =>
          intro q ls hkd hl
          obtain rfl : b.length = q := by omega
          refine lv_iload hx hb d_MD_majority_13 (lv_at hl 0 rfl) ?_
          refine lv_iload_n hx hb d_MD_majority_15 rfl (lv_at hl 5 rfl) ?_
          refine lv_icmp_ge hx hb d_MD_majority_16 rfl (fun _ => ?_) (fun h9 => absurd (nI_le (Nat.le_refl _) (by omega)) h9)
          refine lv_iconst (v := 2) hx hb d_MD_majority_56 (by decide) ?_
          refine lv_iload hx hb d_MD_majority_57 (lv_at hl 1 rfl) ?_
          refine lv_imul hx hb d_MD_majority_59 ?_
          refine lv_iload_n hx hb d_MD_majority_60 rfl (lv_at hl 5 rfl) ?_
          refine lv_icmp_le hx hb d_MD_majority_61 rfl (fun h61 => ?_) (fun h61 => ?_)
          · refine lv_iinc (v := nI (k + 1)) hx hb d_MD_majority_73 hl (k := 2) rfl (nI_1 k) (by decide) rfl (fun ls hl => ?_)
            have hl : lv_has ls 6 [(3, .int (nI (k + 1))), (5, .int (nI b.length)), (4, .int (nI (qm_cs (fun q => v 43 0 (0 + q)) (v 43 0 (0 + k)) 0 b.length))), (0, .ref (qa_a y 22 0)), (1, .int 0), (2, .int (nI (b.length)))] := hl
            refine lv_goto hx hb d_MD_majority_76 rfl ?_
            exact ih (k + 1) ls (by omega) (lt_s hI1 (by rw [hcs, qm_2nI, nI_leI (by have := hcl (v 43 0 (0 + k)); omega) (by omega)] at h61; exact h61)) (lv_sub hl [0, 3, 4, 5] rfl)
          · refine lv_aload_n hx hb d_MD_majority_64 rfl (lv_at hl 3 rfl) ?_
            refine qa_get (k := 22) (i := 0) (f := 26) (val := .ref (qa_a y 43 0)) E hC Nat.one_pos rfl rfl (by decide) f_MD_70 rfl rfl d_MD_majority_65 ?_
            refine lv_iload_n hx hb d_MD_majority_68 rfl (lv_at hl 4 rfl) ?_
            refine lv_iload_n hx hb d_MD_majority_69 rfl (lv_at hl 2 rfl) ?_
            refine lv_iadd hx hb d_MD_majority_70 ?_
            refine qa_ild (k := 43) (i := 0) (j := (0 + k)) E hC Nat.one_pos rfl rfl (qn_add rfl rfl) (show 0 + k < 16 by omega) d_MD_majority_71 ?_
            exact qa_iret hx hb hr hlocks ((qm_maj_in (by have h8 := qm_lt h61; rw [hcs, qm_2nI, nI_ltI (by omega) (by have := hcl (v 43 0 (0 + k)); omega)] at h8; exact h8)).symm) d_MD_majority_72
        | succ d ih2 =>
          intro q ls hkd hl
          have hq : q < b.length := by omega
          refine lv_iload hx hb d_MD_majority_13 (lv_at hl 0 rfl) ?_
          refine lv_iload_n hx hb d_MD_majority_15 rfl (lv_at hl 5 rfl) ?_
          refine lv_icmp_ge hx hb d_MD_majority_16 rfl (fun h9 => absurd h9 (nI_ge hq (by omega))) (fun _ => ?_)
          refine lv_aload_n hx hb d_MD_majority_19 rfl (lv_at hl 3 rfl) ?_
          refine qa_get (k := 22) (i := 0) (f := 26) (val := .ref (qa_a y 43 0)) E hC Nat.one_pos rfl rfl (by decide) f_MD_70 rfl rfl d_MD_majority_20 ?_
          refine lv_iload_n hx hb d_MD_majority_23 rfl (lv_at hl 4 rfl) ?_
          refine lv_iload hx hb d_MD_majority_24 (lv_at hl 0 rfl) ?_
          refine lv_iadd hx hb d_MD_majority_26 ?_
          refine qa_ild (k := 43) (i := 0) (j := (0 + q)) E hC Nat.one_pos rfl rfl (qn_add rfl rfl) (show 0 + q < 16 by omega) d_MD_majority_27 ?_
          refine lv_aload_n hx hb d_MD_majority_28 rfl (lv_at hl 3 rfl) ?_
          refine qa_get (k := 22) (i := 0) (f := 26) (val := .ref (qa_a y 43 0)) E hC Nat.one_pos rfl rfl (by decide) f_MD_70 rfl rfl d_MD_majority_29 ?_
          refine lv_iload_n hx hb d_MD_majority_32 rfl (lv_at hl 4 rfl) ?_
          refine lv_iload_n hx hb d_MD_majority_33 rfl (lv_at hl 2 rfl) ?_
          refine lv_iadd hx hb d_MD_majority_34 ?_
          refine qa_ild (k := 43) (i := 0) (j := (0 + k)) E hC Nat.one_pos rfl rfl (qn_add rfl rfl) (show 0 + k < 16 by omega) d_MD_majority_35 ?_
          refine lv_icmp_ne hx hb d_MD_majority_36 rfl (fun h36 => ?_) (fun h36 => ?_)
          · refine lv_iload hx hb d_MD_majority_46 (lv_at hl 1 rfl) ?_
            refine lv_istore hx hb d_MD_majority_48 hl (by decide) rfl (fun ls hl => ?_)
            have hl : lv_has ls 6 [(4, .int (nI (qm_cs (fun q => v 43 0 (0 + q)) (v 43 0 (0 + k)) 0 q))), (5, .int (nI q)), (3, .int (nI k)), (0, .ref (qa_a y 22 0)), (1, .int 0), (2, .int (nI (b.length)))] := hl
            refine lv_iinc (v := nI (q + 1)) hx hb d_MD_majority_50 hl (k := 1) rfl (nI_1 q) (by decide) rfl (fun ls hl => ?_)
            have hl : lv_has ls 6 [(5, .int (nI (q + 1))), (4, .int (nI (qm_cs (fun q => v 43 0 (0 + q)) (v 43 0 (0 + k)) 0 q))), (3, .int (nI k)), (0, .ref (qa_a y 22 0)), (1, .int 0), (2, .int (nI (b.length)))] := hl
            refine lv_goto hx hb d_MD_majority_53 rfl ?_
            have e5 : qm_cs (fun q => v 43 0 (0 + q)) (v 43 0 (0 + k)) 0 (q + 1) = qm_cs (fun q => v 43 0 (0 + q)) (v 43 0 (0 + k)) 0 q := by rw [qm_cs, Nat.zero_add]; exact if_neg h36
            refine ih2 (q + 1) ls (by omega) ?_
            rw [e5]
            exact lv_sub hl [0, 1, 2, 3, 4, 5] rfl
          · refine lv_iload hx hb d_MD_majority_39 (lv_at hl 1 rfl) ?_
            refine lv_iconst (v := 1) hx hb d_MD_majority_41 (by decide) ?_
            refine lv_iadd hx hb d_MD_majority_42 ?_
            refine lv_goto hx hb d_MD_majority_43 rfl ?_
            refine lv_istore hx hb d_MD_majority_48 hl (by decide) rfl (fun ls hl => ?_)
            have hl : lv_has ls 6 [(4, .int ((nI (qm_cs (fun q => v 43 0 (0 + q)) (v 43 0 (0 + k)) 0 q)) + 1)), (5, .int (nI q)), (3, .int (nI k)), (0, .ref (qa_a y 22 0)), (1, .int 0), (2, .int (nI (b.length)))] := hl
            refine lv_iinc (v := nI (q + 1)) hx hb d_MD_majority_50 hl (k := 1) rfl (nI_1 q) (by decide) rfl (fun ls hl => ?_)
            have hl : lv_has ls 6 [(5, .int (nI (q + 1))), (4, .int ((nI (qm_cs (fun q => v 43 0 (0 + q)) (v 43 0 (0 + k)) 0 q)) + 1)), (3, .int (nI k)), (0, .ref (qa_a y 22 0)), (1, .int 0), (2, .int (nI (b.length)))] := hl
            refine lv_goto hx hb d_MD_majority_53 rfl ?_
            have e5 : qm_cs (fun q => v 43 0 (0 + q)) (v 43 0 (0 + k)) 0 (q + 1) = qm_cs (fun q => v 43 0 (0 + q)) (v 43 0 (0 + k)) 0 q + 1 := by rw [qm_cs, Nat.zero_add]; exact if_pos h36
            refine ih2 (q + 1) ls (by omega) ?_
            rw [e5, ← nI_1 (qm_cs (fun q => v 43 0 (0 + q)) (v 43 0 (0 + k)) 0 q)]
            exact lv_sub hl [0, 1, 2, 3, 4, 5] rfl
      exact loop2 b.length 0 ls (by omega) (lv_sub hl [0, 1, 2, 3, 4, 5] rfl)
  refine lv_iconst (v := 0) hx hb d_MD_majority_0 (by decide) ?_
  refine lv_istore_n hx hb d_MD_majority_1 rfl hl (by decide) rfl (fun ls hl => ?_)
  have hl : lv_has ls 6 [(3, .int 0), (0, .ref (qa_a y 22 0)), (1, .int 0), (2, .int (nI (b.length)))] := hl
  exact loop b.length 0 ls (by omega) lt_0 (lv_sub hl [0, 1, 2, 3] rfl)

set_option maxHeartbeats 4000000 in
set_option maxRecDepth 100000 in
theorem c_MD_majority8 (l : Launch) (y : qa_L) (v : qa_M) (b : List Int32) (hh : qm_hd (fun q => v 43 0 (8 + q)) b) (hb8 : b.length ≤ 8) : qa_Pu l y_MD_majority b_MD_majority 6 (some .int) 0 [.ref (qa_a y 22 0), .int 8, .int (nI (b.length))] (qa_W y v) (qm_maj b) := by
  refine qa_ofPu (plainFor_of_name (by decide)) (Nat.le_of_ble_eq_true rfl) ?_
  intro p e s m below meth c ls F hr hlocks hW hl
  have E : qa_E p m c b_MD_majority 6 s _ "VotedFramesModel" y := ⟨F, hW.2⟩
  have hC : qa_C y v s s.heap [] := ⟨hW.1, va_S.rf⟩
  have hx := F.1
  have hb := F.2.1
  have hown : s.vm.findClass "VotedFramesModel" = some m.cls := F.2.2.2.1
  have hts := F.2.2.2.2
  have hn4 : 4 ≤ qa_n y := E.2.1.2.2.1
  have hn7 : qa_n y ≤ 7 := E.2.1.2.2.2.1
  have hl : lv_has ls 6 [(0, .ref (qa_a y 22 0)), (1, .int 8), (2, .int (nI (b.length)))] := hl
  have hcs : ∀ k, qm_cs (fun q => v 43 0 (8 + q)) (v 43 0 (8 + k)) 0 b.length = b.count (v 43 0 (8 + k)) := fun k => by
    have := qm_hd_cs hh (p := 0) (by omega) (v 43 0 (8 + k))
    rw [Nat.sub_zero, List.drop_zero] at this
    exact this
  have hcl : ∀ x : Int32, b.count x ≤ b.length := fun x => List.count_le_length
  have loop : ∀ (d k : Nat) (ls : Array Slot), k + d = b.length → (∀ p, p < k → 2 * b.count (v 43 0 (8 + p)) ≤ b.length) → lv_has ls 6 [(3, .int (nI k)), (0, .ref (qa_a y 22 0)), (1, .int 8), (2, .int (nI (b.length)))] → W p l e (qa_R 0) s m [.ref (qa_a y 22 0), .int 8, .int (nI (b.length))].toArray below meth c s.heap [] 0 0 (MQ below (QcRead (qm_maj b)) [.ref (qa_a y 22 0), .int 8, .int (nI (b.length))].toArray s 0 0 (fun _ => False)) (F0 m 2 ls []) := by
    intro d
    induction d with
    | zero =>
      intro k ls hkd hI hl
      obtain rfl : b.length = k := by omega
      refine lv_iload_n hx hb d_MD_majority_2 rfl (lv_at hl 0 rfl) ?_
      refine lv_iload_n hx hb d_MD_majority_3 rfl (lv_at hl 3 rfl) ?_
      refine lv_icmp_ge hx hb d_MD_majority_4 rfl (fun _ => ?_) (fun h9 => absurd (nI_le (Nat.le_refl _) (by omega)) h9)
      refine lv_iconst (v := 0) hx hb d_MD_majority_79 (by decide) ?_
      exact qa_iret hx hb hr hlocks ((qm_maj_no (fun x hx => by
          obtain ⟨p9, hp9, e9⟩ := List.getElem_of_mem hx
          have h8 := hI p9 hp9
          have h7 := hh p9 hp9
          simp only [List.getD_eq_getElem?_getD, List.getElem?_eq_getElem hp9, Option.getD_some, e9] at h7
          rw [h7] at h8
          exact h8)).symm) d_MD_majority_80
    | succ d ih =>
      intro k ls hkd hI hl
      have hk : k < b.length := by omega
      refine lv_iload_n hx hb d_MD_majority_2 rfl (lv_at hl 0 rfl) ?_
      refine lv_iload_n hx hb d_MD_majority_3 rfl (lv_at hl 3 rfl) ?_
      refine lv_icmp_ge hx hb d_MD_majority_4 rfl (fun h9 => absurd h9 (nI_ge hk (by omega))) (fun _ => ?_)
      refine lv_iconst (v := 0) hx hb d_MD_majority_7 (by decide) ?_
      refine lv_istore hx hb d_MD_majority_8 hl (by decide) rfl (fun ls hl => ?_)
      have hl : lv_has ls 6 [(4, .int 0), (3, .int (nI k)), (0, .ref (qa_a y 22 0)), (1, .int 8), (2, .int (nI (b.length)))] := hl
      refine lv_iconst (v := 0) hx hb d_MD_majority_10 (by decide) ?_
      refine lv_istore hx hb d_MD_majority_11 hl (by decide) rfl (fun ls hl => ?_)
      have hl : lv_has ls 6 [(5, .int 0), (4, .int 0), (3, .int (nI k)), (0, .ref (qa_a y 22 0)), (1, .int 8), (2, .int (nI (b.length)))] := hl
      have hI1 := hI
      have loop2 : ∀ (d q : Nat) (ls : Array Slot), q + d = b.length → lv_has ls 6 [(5, .int (nI q)), (4, .int (nI (qm_cs (fun q => v 43 0 (8 + q)) (v 43 0 (8 + k)) 0 q))), (3, .int (nI k)), (0, .ref (qa_a y 22 0)), (1, .int 8), (2, .int (nI (b.length)))] → W p l e (qa_R 0) s m [.ref (qa_a y 22 0), .int 8, .int (nI (b.length))].toArray below meth c s.heap [] 0 0 (MQ below (QcRead (qm_maj b)) [.ref (qa_a y 22 0), .int 8, .int (nI (b.length))].toArray s 0 0 (fun _ => False)) (F0 m 13 ls []) := by
        intro d
        induction d with
        | zero =>
          intro q ls hkd hl
          obtain rfl : b.length = q := by omega
          refine lv_iload hx hb d_MD_majority_13 (lv_at hl 0 rfl) ?_
          refine lv_iload_n hx hb d_MD_majority_15 rfl (lv_at hl 5 rfl) ?_
          refine lv_icmp_ge hx hb d_MD_majority_16 rfl (fun _ => ?_) (fun h9 => absurd (nI_le (Nat.le_refl _) (by omega)) h9)
          refine lv_iconst (v := 2) hx hb d_MD_majority_56 (by decide) ?_
          refine lv_iload hx hb d_MD_majority_57 (lv_at hl 1 rfl) ?_
          refine lv_imul hx hb d_MD_majority_59 ?_
          refine lv_iload_n hx hb d_MD_majority_60 rfl (lv_at hl 5 rfl) ?_
          refine lv_icmp_le hx hb d_MD_majority_61 rfl (fun h61 => ?_) (fun h61 => ?_)
          · refine lv_iinc (v := nI (k + 1)) hx hb d_MD_majority_73 hl (k := 2) rfl (nI_1 k) (by decide) rfl (fun ls hl => ?_)
            have hl : lv_has ls 6 [(3, .int (nI (k + 1))), (5, .int (nI b.length)), (4, .int (nI (qm_cs (fun q => v 43 0 (8 + q)) (v 43 0 (8 + k)) 0 b.length))), (0, .ref (qa_a y 22 0)), (1, .int 8), (2, .int (nI (b.length)))] := hl
            refine lv_goto hx hb d_MD_majority_76 rfl ?_
            exact ih (k + 1) ls (by omega) (lt_s hI1 (by rw [hcs, qm_2nI, nI_leI (by have := hcl (v 43 0 (8 + k)); omega) (by omega)] at h61; exact h61)) (lv_sub hl [0, 3, 4, 5] rfl)
          · refine lv_aload_n hx hb d_MD_majority_64 rfl (lv_at hl 3 rfl) ?_
            refine qa_get (k := 22) (i := 0) (f := 26) (val := .ref (qa_a y 43 0)) E hC Nat.one_pos rfl rfl (by decide) f_MD_70 rfl rfl d_MD_majority_65 ?_
            refine lv_iload_n hx hb d_MD_majority_68 rfl (lv_at hl 4 rfl) ?_
            refine lv_iload_n hx hb d_MD_majority_69 rfl (lv_at hl 2 rfl) ?_
            refine lv_iadd hx hb d_MD_majority_70 ?_
            refine qa_ild (k := 43) (i := 0) (j := (8 + k)) E hC Nat.one_pos rfl rfl (qn_add rfl rfl) (show 8 + k < 16 by omega) d_MD_majority_71 ?_
            exact qa_iret hx hb hr hlocks ((qm_maj_in (by have h8 := qm_lt h61; rw [hcs, qm_2nI, nI_ltI (by omega) (by have := hcl (v 43 0 (8 + k)); omega)] at h8; exact h8)).symm) d_MD_majority_72
        | succ d ih2 =>
          intro q ls hkd hl
          have hq : q < b.length := by omega
          refine lv_iload hx hb d_MD_majority_13 (lv_at hl 0 rfl) ?_
          refine lv_iload_n hx hb d_MD_majority_15 rfl (lv_at hl 5 rfl) ?_
          refine lv_icmp_ge hx hb d_MD_majority_16 rfl (fun h9 => absurd h9 (nI_ge hq (by omega))) (fun _ => ?_)
          refine lv_aload_n hx hb d_MD_majority_19 rfl (lv_at hl 3 rfl) ?_
          refine qa_get (k := 22) (i := 0) (f := 26) (val := .ref (qa_a y 43 0)) E hC Nat.one_pos rfl rfl (by decide) f_MD_70 rfl rfl d_MD_majority_20 ?_
          refine lv_iload_n hx hb d_MD_majority_23 rfl (lv_at hl 4 rfl) ?_
          refine lv_iload hx hb d_MD_majority_24 (lv_at hl 0 rfl) ?_
          refine lv_iadd hx hb d_MD_majority_26 ?_
          refine qa_ild (k := 43) (i := 0) (j := (8 + q)) E hC Nat.one_pos rfl rfl (qn_add rfl rfl) (show 8 + q < 16 by omega) d_MD_majority_27 ?_
          refine lv_aload_n hx hb d_MD_majority_28 rfl (lv_at hl 3 rfl) ?_
          refine qa_get (k := 22) (i := 0) (f := 26) (val := .ref (qa_a y 43 0)) E hC Nat.one_pos rfl rfl (by decide) f_MD_70 rfl rfl d_MD_majority_29 ?_
          refine lv_iload_n hx hb d_MD_majority_32 rfl (lv_at hl 4 rfl) ?_
          refine lv_iload_n hx hb d_MD_majority_33 rfl (lv_at hl 2 rfl) ?_
          refine lv_iadd hx hb d_MD_majority_34 ?_
          refine qa_ild (k := 43) (i := 0) (j := (8 + k)) E hC Nat.one_pos rfl rfl (qn_add rfl rfl) (show 8 + k < 16 by omega) d_MD_majority_35 ?_
          refine lv_icmp_ne hx hb d_MD_majority_36 rfl (fun h36 => ?_) (fun h36 => ?_)
          · refine lv_iload hx hb d_MD_majority_46 (lv_at hl 1 rfl) ?_
            refine lv_istore hx hb d_MD_majority_48 hl (by decide) rfl (fun ls hl => ?_)
            have hl : lv_has ls 6 [(4, .int (nI (qm_cs (fun q => v 43 0 (8 + q)) (v 43 0 (8 + k)) 0 q))), (5, .int (nI q)), (3, .int (nI k)), (0, .ref (qa_a y 22 0)), (1, .int 8), (2, .int (nI (b.length)))] := hl
            refine lv_iinc (v := nI (q + 1)) hx hb d_MD_majority_50 hl (k := 1) rfl (nI_1 q) (by decide) rfl (fun ls hl => ?_)
            have hl : lv_has ls 6 [(5, .int (nI (q + 1))), (4, .int (nI (qm_cs (fun q => v 43 0 (8 + q)) (v 43 0 (8 + k)) 0 q))), (3, .int (nI k)), (0, .ref (qa_a y 22 0)), (1, .int 8), (2, .int (nI (b.length)))] := hl
            refine lv_goto hx hb d_MD_majority_53 rfl ?_
            have e5 : qm_cs (fun q => v 43 0 (8 + q)) (v 43 0 (8 + k)) 0 (q + 1) = qm_cs (fun q => v 43 0 (8 + q)) (v 43 0 (8 + k)) 0 q := by rw [qm_cs, Nat.zero_add]; exact if_neg h36
            refine ih2 (q + 1) ls (by omega) ?_
            rw [e5]
            exact lv_sub hl [0, 1, 2, 3, 4, 5] rfl
          · refine lv_iload hx hb d_MD_majority_39 (lv_at hl 1 rfl) ?_
            refine lv_iconst (v := 1) hx hb d_MD_majority_41 (by decide) ?_
            refine lv_iadd hx hb d_MD_majority_42 ?_
            refine lv_goto hx hb d_MD_majority_43 rfl ?_
            refine lv_istore hx hb d_MD_majority_48 hl (by decide) rfl (fun ls hl => ?_)
            have hl : lv_has ls 6 [(4, .int ((nI (qm_cs (fun q => v 43 0 (8 + q)) (v 43 0 (8 + k)) 0 q)) + 1)), (5, .int (nI q)), (3, .int (nI k)), (0, .ref (qa_a y 22 0)), (1, .int 8), (2, .int (nI (b.length)))] := hl
            refine lv_iinc (v := nI (q + 1)) hx hb d_MD_majority_50 hl (k := 1) rfl (nI_1 q) (by decide) rfl (fun ls hl => ?_)
            have hl : lv_has ls 6 [(5, .int (nI (q + 1))), (4, .int ((nI (qm_cs (fun q => v 43 0 (8 + q)) (v 43 0 (8 + k)) 0 q)) + 1)), (3, .int (nI k)), (0, .ref (qa_a y 22 0)), (1, .int 8), (2, .int (nI (b.length)))] := hl
            refine lv_goto hx hb d_MD_majority_53 rfl ?_
            have e5 : qm_cs (fun q => v 43 0 (8 + q)) (v 43 0 (8 + k)) 0 (q + 1) = qm_cs (fun q => v 43 0 (8 + q)) (v 43 0 (8 + k)) 0 q + 1 := by rw [qm_cs, Nat.zero_add]; exact if_pos h36
            refine ih2 (q + 1) ls (by omega) ?_
            rw [e5, ← nI_1 (qm_cs (fun q => v 43 0 (8 + q)) (v 43 0 (8 + k)) 0 q)]
            exact lv_sub hl [0, 1, 2, 3, 4, 5] rfl
      exact loop2 b.length 0 ls (by omega) (lv_sub hl [0, 1, 2, 3, 4, 5] rfl)
  refine lv_iconst (v := 0) hx hb d_MD_majority_0 (by decide) ?_
  refine lv_istore_n hx hb d_MD_majority_1 rfl hl (by decide) rfl (fun ls hl => ?_)
  have hl : lv_has ls 6 [(3, .int 0), (0, .ref (qa_a y 22 0)), (1, .int 8), (2, .int (nI (b.length)))] := hl
  exact loop b.length 0 ls (by omega) lt_0 (lv_sub hl [0, 1, 2, 3] rfl)
