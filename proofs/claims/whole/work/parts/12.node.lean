set_option maxHeartbeats 4000000 in
set_option maxRecDepth 100000 in
theorem c_ND_memberCount (l : Launch) (y : qa_L) (v : qa_M) (i : Nat) (hi : i < qa_n y) : qa_Pu l y_ND_memberCount b_ND_memberCount 1 (some .int) 1 [.ref (qa_a y 2 i)] (qa_W y v) (qm_bc (v 2 i 11)) := by
  refine qa_ofPu (plainFor_of_name (by decide)) (Nat.le_of_ble_eq_true rfl) ?_
  intro p e s m below meth c ls F hr hlocks hW hl
  have E : qa_E p m c b_ND_memberCount 1 s _ "VotedFrames$Node" y := ⟨F, hW.2⟩
  have hC : qa_C y v s s.heap [] := ⟨hW.1, va_S.rf⟩
  have hx := F.1
  have hb := F.2.1
  have hown : s.vm.findClass "VotedFrames$Node" = some m.cls := F.2.2.2.1
  have hts := F.2.2.2.2
  have hn4 : 4 ≤ qa_n y := E.2.1.2.2.1
  have hn7 : qa_n y ≤ 7 := E.2.1.2.2.2.1
  have hl : lv_has ls 1 [(0, .ref (qa_a y 2 i))] := hl
  refine lv_aload_n hx hb d_ND_memberCount_0 rfl (lv_at hl 0 rfl) ?_
  refine qa_get (k := 2) (i := i) (f := 11) (val := .int (v 2 i 11)) E hC hi rfl rfl (by decide) f_ND_34 rfl rfl d_ND_memberCount_1 ?_
  refine qa_pT (As := [.int (v 2 i 11)]) F (c_JI_bitCount l (v 2 i 11)) k_ND_37 (qa_fitR (by decide) (by decide)) rfl hl.1 rfl (Nat.le_of_ble_eq_true rfl) d_ND_memberCount_4 ?_
  exact qa_iret hx hb hr hlocks rfl d_ND_memberCount_7

set_option maxHeartbeats 4000000 in
set_option maxRecDepth 100000 in
theorem c_ND_bearable (l : Launch) (y : qa_L) (v : qa_M) (i : Nat) (f : Int32) (hi : i < qa_n y) : qa_Pu l y_ND_bearable b_ND_bearable 2 (some .int) 2 [.ref (qa_a y 2 i), .int f] (qa_W y v) (qm_min f ((qm_bc (v 2 i 11) - 1) / 3)) := by
  refine qa_ofPu (plainFor_of_name (by decide)) (Nat.le_of_ble_eq_true rfl) ?_
  intro p e s m below meth c ls F hr hlocks hW hl
  have E : qa_E p m c b_ND_bearable 2 s _ "VotedFrames$Node" y := ⟨F, hW.2⟩
  have hC : qa_C y v s s.heap [] := ⟨hW.1, va_S.rf⟩
  have hx := F.1
  have hb := F.2.1
  have hown : s.vm.findClass "VotedFrames$Node" = some m.cls := F.2.2.2.1
  have hts := F.2.2.2.2
  have hn4 : 4 ≤ qa_n y := E.2.1.2.2.1
  have hn7 : qa_n y ≤ 7 := E.2.1.2.2.2.1
  have hl : lv_has ls 2 [(0, .ref (qa_a y 2 i)), (1, .int f)] := hl
  refine lv_iload_n hx hb d_ND_bearable_0 rfl (lv_at hl 1 rfl) ?_
  refine lv_aload_n hx hb d_ND_bearable_1 rfl (lv_at hl 0 rfl) ?_
  refine qa_pV (k := 2) (i := i) (As := []) E hC (c_ND_memberCount l y v i hi) hi rfl rfl k_ND_43 (qa_fitR (by decide) (by decide)) rfl hl.1 rfl (Nat.le_of_ble_eq_true rfl) d_ND_bearable_2 ?_
  refine lv_iconst (v := 1) hx hb d_ND_bearable_5 (by decide) ?_
  refine lv_isub hx hb d_ND_bearable_6 ?_
  refine lv_iconst (v := 3) hx hb d_ND_bearable_7 (by decide) ?_
  refine lv_idiv hx hb d_ND_bearable_8 qm_div3 ?_
  refine qa_pT (As := [.int f, .int (((qm_bc (v 2 i 11)) - 1) / 3)]) F (c_JM_min l f (((qm_bc (v 2 i 11)) - 1) / 3)) k_ND_47 (qa_fitR (by decide) (by decide)) rfl hl.1 rfl (Nat.le_of_ble_eq_true rfl) d_ND_bearable_9 ?_
  exact qa_iret hx hb hr hlocks rfl d_ND_bearable_12

set_option maxHeartbeats 4000000 in
set_option maxRecDepth 100000 in
theorem c_ND_canHear (l : Launch) (y : qa_L) (v : qa_M) (i j : Nat) (b : Int32) (hi : i < qa_n y) (hj : j < qa_n y) : qa_Pu l y_ND_canHear b_ND_canHear 3 (some .boolean) 2 [.ref (qa_a y 2 i), .ref (qa_a y 2 j), .int b] (qa_W y v) (qb (qm_in (v 2 i 11) (nI j) && (!decide (v 2 j 9 = 1) && qm_wi (v 2 i 6 - v 2 j 6 + v 3 i j) (-b) b))) := by
  refine qa_ofPu (plainFor_of_name (by decide)) (Nat.le_of_ble_eq_true rfl) ?_
  intro p e s m below meth c ls F hr hlocks hW hl
  have E : qa_E p m c b_ND_canHear 3 s _ "VotedFrames$Node" y := ⟨F, hW.2⟩
  have hC : qa_C y v s s.heap [] := ⟨hW.1, va_S.rf⟩
  have hx := F.1
  have hb := F.2.1
  have hown : s.vm.findClass "VotedFrames$Node" = some m.cls := F.2.2.2.1
  have hts := F.2.2.2.2
  have hn4 : 4 ≤ qa_n y := E.2.1.2.2.1
  have hn7 : qa_n y ≤ 7 := E.2.1.2.2.2.1
  have hl : lv_has ls 3 [(0, .ref (qa_a y 2 i)), (1, .ref (qa_a y 2 j)), (2, .int b)] := hl
  refine lv_aload_n hx hb d_ND_canHear_0 rfl (lv_at hl 0 rfl) ?_
  refine qa_get (k := 2) (i := i) (f := 11) (val := .int (v 2 i 11)) E hC hi rfl rfl (by decide) f_ND_34 rfl rfl d_ND_canHear_1 ?_
  refine lv_aload_n hx hb d_ND_canHear_4 rfl (lv_at hl 1 rfl) ?_
  refine qa_get (k := 2) (i := j) (f := 0) (val := .int (nI j)) E hC hj rfl rfl (by decide) f_ND_19 rfl rfl d_ND_canHear_5 ?_
  refine qa_pN (As := [.int (v 2 i 11), .int (nI j)]) E (c_VF_contains l (v 2 i 11) (nI j)) k_ND_53 (qa_fitR (by decide) (by decide)) rfl hl.1 rfl (Nat.le_of_ble_eq_true rfl) d_ND_canHear_8 ?_
  refine lv_if_eq hx hb d_ND_canHear_11 rfl (fun h11 => ?_) (fun h11 => ?_)
  · refine lv_iconst (v := 0) hx hb d_ND_canHear_22 (by decide) ?_
    exact qa_zret hx hb hr hlocks (by first | (rw [qb_e0 h11]; rfl) | (rw [qb_n0 h11, decide_eq_true (Classical.not_not.mp h19)]; rfl) | (rw [qb_n0 h11, decide_eq_false h19]; rfl) | (rw [qb_n0 h11, decide_eq_true h19]; rfl)) rfl d_ND_canHear_23
  · refine lv_aload_n hx hb d_ND_canHear_14 rfl (lv_at hl 1 rfl) ?_
    refine qa_get (k := 2) (i := j) (f := 9) (val := .int (v 2 j 9)) E hC hj rfl rfl (by decide) f_ND_15 rfl rfl d_ND_canHear_15 ?_
    refine lv_iconst (v := 1) hx hb d_ND_canHear_18 (by decide) ?_
    refine lv_icmp_ne hx hb d_ND_canHear_19 rfl (fun h19 => ?_) (fun h19 => ?_)
    · refine lv_aload_n hx hb d_ND_canHear_24 rfl (lv_at hl 0 rfl) ?_
      refine qa_get (k := 2) (i := i) (f := 6) (val := .int (v 2 i 6)) E hC hi rfl rfl (by decide) f_ND_57 rfl rfl d_ND_canHear_25 ?_
      refine lv_aload_n hx hb d_ND_canHear_28 rfl (lv_at hl 1 rfl) ?_
      refine qa_get (k := 2) (i := j) (f := 6) (val := .int (v 2 j 6)) E hC hj rfl rfl (by decide) f_ND_57 rfl rfl d_ND_canHear_29 ?_
      refine lv_isub hx hb d_ND_canHear_32 ?_
      refine lv_aload_n hx hb d_ND_canHear_33 rfl (lv_at hl 0 rfl) ?_
      refine qa_get (k := 2) (i := i) (f := 1) (val := .ref (qa_a y 3 i)) E hC hi rfl rfl (by decide) f_ND_22 rfl rfl d_ND_canHear_34 ?_
      refine lv_aload_n hx hb d_ND_canHear_37 rfl (lv_at hl 1 rfl) ?_
      refine qa_get (k := 2) (i := j) (f := 0) (val := .int (nI j)) E hC hj rfl rfl (by decide) f_ND_19 rfl rfl d_ND_canHear_38 ?_
      refine qa_ild (k := 3) (i := i) (j := j) E hC hi rfl rfl rfl hj d_ND_canHear_41 ?_
      refine lv_iadd hx hb d_ND_canHear_42 ?_
      refine lv_iload_n hx hb d_ND_canHear_43 rfl (lv_at hl 2 rfl) ?_
      refine qa_pN (As := [.int (((v 2 i 6) - (v 2 j 6)) + (v 3 i j)), .int b]) E (c_VF_isAtMost l (((v 2 i 6) - (v 2 j 6)) + (v 3 i j)) b) k_ND_60 (qa_fitR (by decide) (by decide)) rfl hl.1 rfl (Nat.le_of_ble_eq_true rfl) d_ND_canHear_44 ?_
      exact qa_zret hx hb hr hlocks (by first | (rw [qb_e0 h11]; rfl) | (rw [qb_n0 h11, decide_eq_true (Classical.not_not.mp h19)]; rfl) | (rw [qb_n0 h11, decide_eq_false h19]; rfl) | (rw [qb_n0 h11, decide_eq_true h19]; rfl)) (qb_nar _) d_ND_canHear_47
    · refine lv_iconst (v := 0) hx hb d_ND_canHear_22 (by decide) ?_
      exact qa_zret hx hb hr hlocks (by first | (rw [qb_e0 h11]; rfl) | (rw [qb_n0 h11, decide_eq_true (Classical.not_not.mp h19)]; rfl) | (rw [qb_n0 h11, decide_eq_false h19]; rfl) | (rw [qb_n0 h11, decide_eq_true h19]; rfl)) rfl d_ND_canHear_23

set_option maxHeartbeats 4000000 in
set_option maxRecDepth 100000 in
theorem c_ND_says (l : Launch) (y : qa_L) (v : qa_M) (i : Nat) (x to fr : Int32) (hi : i < qa_n y) : qa_Pu l y_ND_says b_ND_says 4 (some .int) 0 [.ref (qa_a y 2 i), .int x, .int to, .int fr] (qa_W y v) (qm_says (v 2 i 9) (v 2 i 10) x to fr) := by
  refine qa_ofPu (plainFor_of_name (by decide)) (Nat.le_of_ble_eq_true rfl) ?_
  intro p e s m below meth c ls F hr hlocks hW hl
  have E : qa_E p m c b_ND_says 4 s _ "VotedFrames$Node" y := ⟨F, hW.2⟩
  have hC : qa_C y v s s.heap [] := ⟨hW.1, va_S.rf⟩
  have hx := F.1
  have hb := F.2.1
  have hown : s.vm.findClass "VotedFrames$Node" = some m.cls := F.2.2.2.1
  have hts := F.2.2.2.2
  have hn4 : 4 ≤ qa_n y := E.2.1.2.2.1
  have hn7 : qa_n y ≤ 7 := E.2.1.2.2.2.1
  have hl : lv_has ls 4 [(0, .ref (qa_a y 2 i)), (1, .int x), (2, .int to), (3, .int fr)] := hl
  refine lv_aload_n hx hb d_ND_says_0 rfl (lv_at hl 0 rfl) ?_
  refine qa_get (k := 2) (i := i) (f := 9) (val := .int (v 2 i 9)) E hC hi rfl rfl (by decide) f_ND_15 rfl rfl d_ND_says_1 ?_
  rcases qm_sw25 (v 2 i 9) with k4 | k4 | k4 | k4 | k4
  · refine lv_tableIn (off := 32) (tgt := 36) hx hb d_ND_says_4 (by rw [k4]; decide) (by rw [k4]; decide) (by rw [k4]; rfl) rfl ?_
    refine lv_aload_n hx hb d_ND_says_36 rfl (lv_at hl 0 rfl) ?_
    refine qa_get (k := 2) (i := i) (f := 10) (val := .int (v 2 i 10)) E hC hi rfl rfl (by decide) f_ND_63 rfl rfl d_ND_says_37 ?_
    exact qa_iret hx hb hr hlocks (by unfold qm_says; first | (rw [if_pos k4]; done) | (rw [if_neg (by rw [k4]; decide), if_pos k4]; first | (rw [if_pos h44]; done) | (rw [if_neg h44]; done)) | (rw [if_neg (by rw [k4]; decide), if_neg (by rw [k4]; decide), if_pos k4]; done) | (rw [if_neg (by rw [k4]; decide), if_neg (by rw [k4]; decide), if_neg (by rw [k4]; decide), if_pos k4]; first | (rw [if_pos h72]; done) | (rw [if_neg h72]; done)) | (rw [if_neg (qm_out_ne k4 (by decide) (by decide)), if_neg (qm_out_ne k4 (by decide) (by decide)), if_neg (qm_out_ne k4 (by decide) (by decide)), if_neg (qm_out_ne k4 (by decide) (by decide))]; done)) d_ND_says_40
  · refine lv_tableIn (off := 37) (tgt := 41) hx hb d_ND_says_4 (by rw [k4]; decide) (by rw [k4]; decide) (by rw [k4]; rfl) rfl ?_
    refine lv_iload_n hx hb d_ND_says_41 rfl (lv_at hl 2 rfl) ?_
    refine lv_iconst (v := 2) hx hb d_ND_says_42 (by decide) ?_
    refine lv_irem hx hb d_ND_says_43 qm_div2 ?_
    refine lv_if_eq hx hb d_ND_says_44 rfl (fun h44 => ?_) (fun h44 => ?_)
    · refine lv_iload_n hx hb d_ND_says_56 rfl (lv_at hl 1 rfl) ?_
      exact qa_iret hx hb hr hlocks (by unfold qm_says; first | (rw [if_pos k4]; done) | (rw [if_neg (by rw [k4]; decide), if_pos k4]; first | (rw [if_pos h44]; done) | (rw [if_neg h44]; done)) | (rw [if_neg (by rw [k4]; decide), if_neg (by rw [k4]; decide), if_pos k4]; done) | (rw [if_neg (by rw [k4]; decide), if_neg (by rw [k4]; decide), if_neg (by rw [k4]; decide), if_pos k4]; first | (rw [if_pos h72]; done) | (rw [if_neg h72]; done)) | (rw [if_neg (qm_out_ne k4 (by decide) (by decide)), if_neg (qm_out_ne k4 (by decide) (by decide)), if_neg (qm_out_ne k4 (by decide) (by decide)), if_neg (qm_out_ne k4 (by decide) (by decide))]; done)) d_ND_says_57
    · refine lv_iload_n hx hb d_ND_says_47 rfl (lv_at hl 1 rfl) ?_
      refine lv_aload_n hx hb d_ND_says_48 rfl (lv_at hl 0 rfl) ?_
      refine qa_get (k := 2) (i := i) (f := 10) (val := .int (v 2 i 10)) E hC hi rfl rfl (by decide) f_ND_63 rfl rfl d_ND_says_49 ?_
      refine lv_iadd hx hb d_ND_says_52 ?_
      refine lv_goto hx hb d_ND_says_53 rfl ?_
      exact qa_iret hx hb hr hlocks (by unfold qm_says; first | (rw [if_pos k4]; done) | (rw [if_neg (by rw [k4]; decide), if_pos k4]; first | (rw [if_pos h44]; done) | (rw [if_neg h44]; done)) | (rw [if_neg (by rw [k4]; decide), if_neg (by rw [k4]; decide), if_pos k4]; done) | (rw [if_neg (by rw [k4]; decide), if_neg (by rw [k4]; decide), if_neg (by rw [k4]; decide), if_pos k4]; first | (rw [if_pos h72]; done) | (rw [if_neg h72]; done)) | (rw [if_neg (qm_out_ne k4 (by decide) (by decide)), if_neg (qm_out_ne k4 (by decide) (by decide)), if_neg (qm_out_ne k4 (by decide) (by decide)), if_neg (qm_out_ne k4 (by decide) (by decide))]; done)) d_ND_says_57
  · refine lv_tableIn (off := 54) (tgt := 58) hx hb d_ND_says_4 (by rw [k4]; decide) (by rw [k4]; decide) (by rw [k4]; rfl) rfl ?_
    refine lv_iload_n hx hb d_ND_says_58 rfl (lv_at hl 1 rfl) ?_
    refine lv_aload_n hx hb d_ND_says_59 rfl (lv_at hl 0 rfl) ?_
    refine qa_get (k := 2) (i := i) (f := 10) (val := .int (v 2 i 10)) E hC hi rfl rfl (by decide) f_ND_63 rfl rfl d_ND_says_60 ?_
    refine lv_iload_n hx hb d_ND_says_63 rfl (lv_at hl 2 rfl) ?_
    refine lv_iconst (v := 1) hx hb d_ND_says_64 (by decide) ?_
    refine lv_iadd hx hb d_ND_says_65 ?_
    refine lv_imul hx hb d_ND_says_66 ?_
    refine lv_iadd hx hb d_ND_says_67 ?_
    exact qa_iret hx hb hr hlocks (by unfold qm_says; first | (rw [if_pos k4]; done) | (rw [if_neg (by rw [k4]; decide), if_pos k4]; first | (rw [if_pos h44]; done) | (rw [if_neg h44]; done)) | (rw [if_neg (by rw [k4]; decide), if_neg (by rw [k4]; decide), if_pos k4]; done) | (rw [if_neg (by rw [k4]; decide), if_neg (by rw [k4]; decide), if_neg (by rw [k4]; decide), if_pos k4]; first | (rw [if_pos h72]; done) | (rw [if_neg h72]; done)) | (rw [if_neg (qm_out_ne k4 (by decide) (by decide)), if_neg (qm_out_ne k4 (by decide) (by decide)), if_neg (qm_out_ne k4 (by decide) (by decide)), if_neg (qm_out_ne k4 (by decide) (by decide))]; done)) d_ND_says_68
  · refine lv_tableIn (off := 65) (tgt := 69) hx hb d_ND_says_4 (by rw [k4]; decide) (by rw [k4]; decide) (by rw [k4]; rfl) rfl ?_
    refine lv_iload_n hx hb d_ND_says_69 rfl (lv_at hl 3 rfl) ?_
    refine lv_iconst (v := 2) hx hb d_ND_says_70 (by decide) ?_
    refine lv_irem hx hb d_ND_says_71 qm_div2 ?_
    refine lv_if_eq hx hb d_ND_says_72 rfl (fun h72 => ?_) (fun h72 => ?_)
    · refine lv_iload_n hx hb d_ND_says_82 rfl (lv_at hl 1 rfl) ?_
      exact qa_iret hx hb hr hlocks (by unfold qm_says; first | (rw [if_pos k4]; done) | (rw [if_neg (by rw [k4]; decide), if_pos k4]; first | (rw [if_pos h44]; done) | (rw [if_neg h44]; done)) | (rw [if_neg (by rw [k4]; decide), if_neg (by rw [k4]; decide), if_pos k4]; done) | (rw [if_neg (by rw [k4]; decide), if_neg (by rw [k4]; decide), if_neg (by rw [k4]; decide), if_pos k4]; first | (rw [if_pos h72]; done) | (rw [if_neg h72]; done)) | (rw [if_neg (qm_out_ne k4 (by decide) (by decide)), if_neg (qm_out_ne k4 (by decide) (by decide)), if_neg (qm_out_ne k4 (by decide) (by decide)), if_neg (qm_out_ne k4 (by decide) (by decide))]; done)) d_ND_says_83
    · refine lv_aload_n hx hb d_ND_says_75 rfl (lv_at hl 0 rfl) ?_
      refine qa_get (k := 2) (i := i) (f := 10) (val := .int (v 2 i 10)) E hC hi rfl rfl (by decide) f_ND_63 rfl rfl d_ND_says_76 ?_
      refine lv_goto hx hb d_ND_says_79 rfl ?_
      exact qa_iret hx hb hr hlocks (by unfold qm_says; first | (rw [if_pos k4]; done) | (rw [if_neg (by rw [k4]; decide), if_pos k4]; first | (rw [if_pos h44]; done) | (rw [if_neg h44]; done)) | (rw [if_neg (by rw [k4]; decide), if_neg (by rw [k4]; decide), if_pos k4]; done) | (rw [if_neg (by rw [k4]; decide), if_neg (by rw [k4]; decide), if_neg (by rw [k4]; decide), if_pos k4]; first | (rw [if_pos h72]; done) | (rw [if_neg h72]; done)) | (rw [if_neg (qm_out_ne k4 (by decide) (by decide)), if_neg (qm_out_ne k4 (by decide) (by decide)), if_neg (qm_out_ne k4 (by decide) (by decide)), if_neg (qm_out_ne k4 (by decide) (by decide))]; done)) d_ND_says_83
  · refine lv_tableOut (tgt := 84) hx hb d_ND_says_4 k4 rfl ?_
    refine lv_iload_n hx hb d_ND_says_84 rfl (lv_at hl 1 rfl) ?_
    exact qa_iret hx hb hr hlocks (by unfold qm_says; first | (rw [if_pos k4]; done) | (rw [if_neg (by rw [k4]; decide), if_pos k4]; first | (rw [if_pos h44]; done) | (rw [if_neg h44]; done)) | (rw [if_neg (by rw [k4]; decide), if_neg (by rw [k4]; decide), if_pos k4]; done) | (rw [if_neg (by rw [k4]; decide), if_neg (by rw [k4]; decide), if_neg (by rw [k4]; decide), if_pos k4]; first | (rw [if_pos h72]; done) | (rw [if_neg h72]; done)) | (rw [if_neg (qm_out_ne k4 (by decide) (by decide)), if_neg (qm_out_ne k4 (by decide) (by decide)), if_neg (qm_out_ne k4 (by decide) (by decide)), if_neg (qm_out_ne k4 (by decide) (by decide))]; done)) d_ND_says_85

set_option maxHeartbeats 4000000 in
set_option maxRecDepth 100000 in
theorem c_ND_shows (l : Launch) (y : qa_L) (v : qa_M) (i : Nat) (to : Int32) (hi : i < qa_n y) : qa_Pu l y_ND_shows b_ND_shows 2 (some .int) 1 [.ref (qa_a y 2 i), .int to] (qa_W y v) (qm_shows (v 2 i 9) (v 2 i 10) (v 2 i 6) to) := by
  refine qa_ofPu (plainFor_of_name (by decide)) (Nat.le_of_ble_eq_true rfl) ?_
  intro p e s m below meth c ls F hr hlocks hW hl
  have E : qa_E p m c b_ND_shows 2 s _ "VotedFrames$Node" y := ⟨F, hW.2⟩
  have hC : qa_C y v s s.heap [] := ⟨hW.1, va_S.rf⟩
  have hx := F.1
  have hb := F.2.1
  have hown : s.vm.findClass "VotedFrames$Node" = some m.cls := F.2.2.2.1
  have hts := F.2.2.2.2
  have hn4 : 4 ≤ qa_n y := E.2.1.2.2.1
  have hn7 : qa_n y ≤ 7 := E.2.1.2.2.2.1
  have hl : lv_has ls 2 [(0, .ref (qa_a y 2 i)), (1, .int to)] := hl
  refine lv_aload_n hx hb d_ND_shows_0 rfl (lv_at hl 0 rfl) ?_
  refine qa_get (k := 2) (i := i) (f := 9) (val := .int (v 2 i 9)) E hC hi rfl rfl (by decide) f_ND_15 rfl rfl d_ND_shows_1 ?_
  refine lv_iconst (v := 5) hx hb d_ND_shows_4 (by decide) ?_
  refine lv_icmp_ne hx hb d_ND_shows_5 rfl (fun h5 => ?_) (fun h5 => ?_)
  · refine lv_aload_n hx hb d_ND_shows_15 rfl (lv_at hl 0 rfl) ?_
    refine lv_aload_n hx hb d_ND_shows_16 rfl (lv_at hl 0 rfl) ?_
    refine qa_get (k := 2) (i := i) (f := 6) (val := .int (v 2 i 6)) E hC hi rfl rfl (by decide) f_ND_57 rfl rfl d_ND_shows_17 ?_
    refine lv_iload_n hx hb d_ND_shows_20 rfl (lv_at hl 1 rfl) ?_
    refine lv_iconst (v := 0) hx hb d_ND_shows_21 (by decide) ?_
    refine qa_pV (k := 2) (i := i) (As := [.int (v 2 i 6), .int to, .int 0]) E hC (c_ND_says l y v i (v 2 i 6) to 0 hi) hi rfl rfl k_ND_66 (qa_fitR (by decide) (by decide)) rfl hl.1 rfl (Nat.le_of_ble_eq_true rfl) d_ND_shows_22 ?_
    exact qa_iret hx hb hr hlocks (by unfold qm_shows; first | (rw [if_pos h5]; done) | (rw [if_neg h5]; done) | (rw [if_pos (Classical.not_not.mp h5)]; done)) d_ND_shows_25
  · refine lv_aload_n hx hb d_ND_shows_8 rfl (lv_at hl 0 rfl) ?_
    refine qa_get (k := 2) (i := i) (f := 6) (val := .int (v 2 i 6)) E hC hi rfl rfl (by decide) f_ND_57 rfl rfl d_ND_shows_9 ?_
    refine lv_goto hx hb d_ND_shows_12 rfl ?_
    exact qa_iret hx hb hr hlocks (by unfold qm_shows; first | (rw [if_pos h5]; done) | (rw [if_neg h5]; done) | (rw [if_pos (Classical.not_not.mp h5)]; done)) d_ND_shows_25

set_option maxHeartbeats 4000000 in
set_option maxRecDepth 100000 in
theorem c_ND_differenceTo (l : Launch) (y : qa_L) (v : qa_M) (i j : Nat) (hi : i < qa_n y) (hj : j < qa_n y) : qa_Pu l y_ND_differenceTo b_ND_differenceTo 2 (some .int) 2 [.ref (qa_a y 2 i), .ref (qa_a y 2 j)] (qa_W y v) (qm_shows (v 2 j 9) (v 2 j 10) (v 2 j 6) (nI i) + v 4 i j - v 2 i 6) := by
  refine qa_ofPu (plainFor_of_name (by decide)) (Nat.le_of_ble_eq_true rfl) ?_
  intro p e s m below meth c ls F hr hlocks hW hl
  have E : qa_E p m c b_ND_differenceTo 2 s _ "VotedFrames$Node" y := ⟨F, hW.2⟩
  have hC : qa_C y v s s.heap [] := ⟨hW.1, va_S.rf⟩
  have hx := F.1
  have hb := F.2.1
  have hown : s.vm.findClass "VotedFrames$Node" = some m.cls := F.2.2.2.1
  have hts := F.2.2.2.2
  have hn4 : 4 ≤ qa_n y := E.2.1.2.2.1
  have hn7 : qa_n y ≤ 7 := E.2.1.2.2.2.1
  have hl : lv_has ls 2 [(0, .ref (qa_a y 2 i)), (1, .ref (qa_a y 2 j))] := hl
  refine lv_aload_n hx hb d_ND_differenceTo_0 rfl (lv_at hl 1 rfl) ?_
  refine lv_aload_n hx hb d_ND_differenceTo_1 rfl (lv_at hl 0 rfl) ?_
  refine qa_get (k := 2) (i := i) (f := 0) (val := .int (nI i)) E hC hi rfl rfl (by decide) f_ND_19 rfl rfl d_ND_differenceTo_2 ?_
  refine qa_pV (k := 2) (i := j) (As := [.int (nI i)]) E hC (c_ND_shows l y v j (nI i) hj) hj rfl rfl k_ND_70 (qa_fitR (by decide) (by decide)) rfl hl.1 rfl (Nat.le_of_ble_eq_true rfl) d_ND_differenceTo_5 ?_
  refine lv_aload_n hx hb d_ND_differenceTo_8 rfl (lv_at hl 0 rfl) ?_
  refine qa_get (k := 2) (i := i) (f := 2) (val := .ref (qa_a y 4 i)) E hC hi rfl rfl (by decide) f_ND_25 rfl rfl d_ND_differenceTo_9 ?_
  refine lv_aload_n hx hb d_ND_differenceTo_12 rfl (lv_at hl 1 rfl) ?_
  refine qa_get (k := 2) (i := j) (f := 0) (val := .int (nI j)) E hC hj rfl rfl (by decide) f_ND_19 rfl rfl d_ND_differenceTo_13 ?_
  refine qa_ild (k := 4) (i := i) (j := j) E hC hi rfl rfl rfl hj d_ND_differenceTo_16 ?_
  refine lv_iadd hx hb d_ND_differenceTo_17 ?_
  refine lv_aload_n hx hb d_ND_differenceTo_18 rfl (lv_at hl 0 rfl) ?_
  refine qa_get (k := 2) (i := i) (f := 6) (val := .int (v 2 i 6)) E hC hi rfl rfl (by decide) f_ND_57 rfl rfl d_ND_differenceTo_19 ?_
  refine lv_isub hx hb d_ND_differenceTo_22 ?_
  exact qa_iret hx hb hr hlocks rfl d_ND_differenceTo_23

set_option maxHeartbeats 4000000 in
set_option maxRecDepth 100000 in
theorem c_ND_accusersOf (l : Launch) (y : qa_L) (v : qa_M) (i j : Nat) (hi : i < qa_n y) (hj : j < qa_n y) : qa_Pu l y_ND_accusersOf b_ND_accusersOf 4 (some .int) 1 [.ref (qa_a y 2 i), .int (nI j)] (qa_W y v) (nI (qm_acc v i j (qa_n y))) := by
  refine qa_ofPu (plainFor_of_name (by decide)) (Nat.le_of_ble_eq_true rfl) ?_
  intro p e s m below meth c ls F hr hlocks hW hl
  have E : qa_E p m c b_ND_accusersOf 4 s _ "VotedFrames$Node" y := ⟨F, hW.2⟩
  have hC : qa_C y v s s.heap [] := ⟨hW.1, va_S.rf⟩
  have hx := F.1
  have hb := F.2.1
  have hown : s.vm.findClass "VotedFrames$Node" = some m.cls := F.2.2.2.1
  have hts := F.2.2.2.2
  have hn4 : 4 ≤ qa_n y := E.2.1.2.2.1
  have hn7 : qa_n y ≤ 7 := E.2.1.2.2.2.1
  have hl : lv_has ls 4 [(0, .ref (qa_a y 2 i)), (1, .int (nI j))] := hl
  have loop : ∀ (d k : Nat) (ls : Array Slot), k + d = qa_n y → lv_has ls 4 [(3, .int (nI k)), (2, .int (nI (qm_acc v i j k))), (0, .ref (qa_a y 2 i)), (1, .int (nI j))] → W p l e (qa_R 1) s m [.ref (qa_a y 2 i), .int (nI j)].toArray below meth c s.heap [] 0 0 (MQ below (QcRead (nI (qm_acc v i j (qa_n y)))) [.ref (qa_a y 2 i), .int (nI j)].toArray s 0 0 (fun _ => False)) (F0 m 4 ls []) := by
    intro d
    induction d with
    | zero =>
      intro k ls hkd hl
      obtain rfl : k = qa_n y := by omega
      refine lv_iload_n hx hb d_ND_accusersOf_4 rfl (lv_at hl 0 rfl) ?_
      refine lv_aload_n hx hb d_ND_accusersOf_5 rfl (lv_at hl 2 rfl) ?_
      refine qa_get (k := 2) (i := i) (f := 4) (val := .ref (qa_a y 6 i)) E hC hi rfl rfl (by decide) f_ND_31 rfl rfl d_ND_accusersOf_6 ?_
      refine qa_len (k := 6) (i := i) E hC hi rfl (v0 := nI (qa_n y)) rfl d_ND_accusersOf_9 ?_
      refine lv_icmp_ge hx hb d_ND_accusersOf_10 rfl (fun _ => ?_) (fun h9 => absurd (nI_le (Nat.le_refl _) (by omega)) h9)
      refine lv_iload_n hx hb d_ND_accusersOf_51 rfl (lv_at hl 1 rfl) ?_
      exact qa_iret hx hb hr hlocks rfl d_ND_accusersOf_52
    | succ d ih =>
      intro k ls hkd hl
      have hk : k < qa_n y := by omega
      refine lv_iload_n hx hb d_ND_accusersOf_4 rfl (lv_at hl 0 rfl) ?_
      refine lv_aload_n hx hb d_ND_accusersOf_5 rfl (lv_at hl 2 rfl) ?_
      refine qa_get (k := 2) (i := i) (f := 4) (val := .ref (qa_a y 6 i)) E hC hi rfl rfl (by decide) f_ND_31 rfl rfl d_ND_accusersOf_6 ?_
      refine qa_len (k := 6) (i := i) E hC hi rfl (v0 := nI (qa_n y)) rfl d_ND_accusersOf_9 ?_
      refine lv_icmp_ge hx hb d_ND_accusersOf_10 rfl (fun h9 => absurd h9 (nI_ge hk (by omega))) (fun _ => ?_)
      refine lv_iload_n hx hb d_ND_accusersOf_13 rfl (lv_at hl 0 rfl) ?_
      refine lv_iload_n hx hb d_ND_accusersOf_14 rfl (lv_at hl 3 rfl) ?_
      refine lv_icmp_eq hx hb d_ND_accusersOf_15 rfl (fun h15 => ?_) (fun h15 => ?_)
      · refine lv_iinc (v := nI (k + 1)) hx hb d_ND_accusersOf_45 hl (k := 0) rfl (nI_1 k) (by decide) rfl (fun ls hl => ?_)
        have hl : lv_has ls 4 [(3, .int (nI (k + 1))), (2, .int (nI (qm_acc v i j k))), (0, .ref (qa_a y 2 i)), (1, .int (nI j))] := hl
        refine lv_goto hx hb d_ND_accusersOf_48 rfl ?_
        refine ih (k + 1) ls (by omega) ?_
        have hq : qm_acc v i j (k + 1) = qm_acc v i j k := if_neg (fun q => q.1 ((nI_eq (by omega) (by omega)).mp h15))
        rw [hq]
        exact lv_sub hl [0, 1, 2, 3] rfl
      · refine lv_aload_n hx hb d_ND_accusersOf_18 rfl (lv_at hl 2 rfl) ?_
        refine qa_get (k := 2) (i := i) (f := 11) (val := .int (v 2 i 11)) E hC hi rfl rfl (by decide) f_ND_34 rfl rfl d_ND_accusersOf_19 ?_
        refine lv_iload_n hx hb d_ND_accusersOf_22 rfl (lv_at hl 0 rfl) ?_
        refine qa_pN (As := [.int (v 2 i 11), .int (nI k)]) E (c_VF_contains l (v 2 i 11) (nI k)) k_ND_53 (qa_fitR (by decide) (by decide)) rfl hl.1 rfl (Nat.le_of_ble_eq_true rfl) d_ND_accusersOf_23 ?_
        refine lv_if_eq hx hb d_ND_accusersOf_26 rfl (fun h26 => ?_) (fun h26 => ?_)
        · refine lv_iinc (v := nI (k + 1)) hx hb d_ND_accusersOf_45 hl (k := 0) rfl (nI_1 k) (by decide) rfl (fun ls hl => ?_)
          have hl : lv_has ls 4 [(3, .int (nI (k + 1))), (2, .int (nI (qm_acc v i j k))), (0, .ref (qa_a y 2 i)), (1, .int (nI j))] := hl
          refine lv_goto hx hb d_ND_accusersOf_48 rfl ?_
          refine ih (k + 1) ls (by omega) ?_
          have hq : qm_acc v i j (k + 1) = qm_acc v i j k := if_neg (fun q => by rw [q.2.1] at h26; exact absurd h26 (by decide))
          rw [hq]
          exact lv_sub hl [0, 1, 2, 3] rfl
        · refine lv_aload_n hx hb d_ND_accusersOf_29 rfl (lv_at hl 2 rfl) ?_
          refine qa_get (k := 2) (i := i) (f := 4) (val := .ref (qa_a y 6 i)) E hC hi rfl rfl (by decide) f_ND_31 rfl rfl d_ND_accusersOf_30 ?_
          refine lv_iload_n hx hb d_ND_accusersOf_33 rfl (lv_at hl 0 rfl) ?_
          refine qa_ild (k := 6) (i := i) (j := k) E hC hi rfl rfl rfl hk d_ND_accusersOf_34 ?_
          refine lv_iload_n hx hb d_ND_accusersOf_35 rfl (lv_at hl 3 rfl) ?_
          refine qa_pN (As := [.int (v 6 i k), .int (nI j)]) E (c_VF_contains l (v 6 i k) (nI j)) k_ND_53 (qa_fitR (by decide) (by decide)) rfl hl.1 rfl (Nat.le_of_ble_eq_true rfl) d_ND_accusersOf_36 ?_
          refine lv_if_eq hx hb d_ND_accusersOf_39 rfl (fun h39 => ?_) (fun h39 => ?_)
          · refine lv_iinc (v := nI (k + 1)) hx hb d_ND_accusersOf_45 hl (k := 0) rfl (nI_1 k) (by decide) rfl (fun ls hl => ?_)
            have hl : lv_has ls 4 [(3, .int (nI (k + 1))), (2, .int (nI (qm_acc v i j k))), (0, .ref (qa_a y 2 i)), (1, .int (nI j))] := hl
            refine lv_goto hx hb d_ND_accusersOf_48 rfl ?_
            refine ih (k + 1) ls (by omega) ?_
            have hq : qm_acc v i j (k + 1) = qm_acc v i j k := if_neg (fun q => by rw [q.2.2] at h39; exact absurd h39 (by decide))
            rw [hq]
            exact lv_sub hl [0, 1, 2, 3] rfl
          · refine lv_iinc (v := nI ((qm_acc v i j k) + 1)) hx hb d_ND_accusersOf_42 hl (k := 1) rfl (nI_1 (qm_acc v i j k)) (by decide) rfl (fun ls hl => ?_)
            have hl : lv_has ls 4 [(2, .int (nI ((qm_acc v i j k) + 1))), (3, .int (nI k)), (0, .ref (qa_a y 2 i)), (1, .int (nI j))] := hl
            refine lv_iinc (v := nI (k + 1)) hx hb d_ND_accusersOf_45 hl (k := 1) rfl (nI_1 k) (by decide) rfl (fun ls hl => ?_)
            have hl : lv_has ls 4 [(3, .int (nI (k + 1))), (2, .int (nI ((qm_acc v i j k) + 1))), (0, .ref (qa_a y 2 i)), (1, .int (nI j))] := hl
            refine lv_goto hx hb d_ND_accusersOf_48 rfl ?_
            refine ih (k + 1) ls (by omega) ?_
            have hq : qm_acc v i j (k + 1) = qm_acc v i j k + 1 := if_pos ⟨fun q => h15 (by rw [q]), qb_n0 h26, qb_n0 h39⟩
            rw [hq]
            exact lv_sub hl [0, 1, 2, 3] rfl
  refine lv_iconst (v := 0) hx hb d_ND_accusersOf_0 (by decide) ?_
  refine lv_istore_n hx hb d_ND_accusersOf_1 rfl hl (by decide) rfl (fun ls hl => ?_)
  have hl : lv_has ls 4 [(2, .int 0), (0, .ref (qa_a y 2 i)), (1, .int (nI j))] := hl
  refine lv_iconst (v := 0) hx hb d_ND_accusersOf_2 (by decide) ?_
  refine lv_istore_n hx hb d_ND_accusersOf_3 rfl hl (by decide) rfl (fun ls hl => ?_)
  have hl : lv_has ls 4 [(3, .int 0), (2, .int 0), (0, .ref (qa_a y 2 i)), (1, .int (nI j))] := hl
  exact loop (qa_n y) 0 ls (by omega) (lv_sub hl [0, 1, 2, 3] rfl)
