set_option maxHeartbeats 4000000 in
set_option maxRecDepth 100000 in
theorem c_RL_follow (l : Launch) (y : qa_L) (v : qa_M) (r j : Int32) : qa_Pu l y_RL_follow b_RL_follow 3 (some .int) 0 [.ref (qa_a y 8 0), .int r, .int j] (qa_W y v) (r * nI (qa_n y) + 1 + j) := by
  refine qa_ofPu (plainFor_of_name (by decide)) (Nat.le_of_ble_eq_true rfl) ?_
  intro p e s m below meth c ls F hr hlocks hW hl
  have E : qa_E p m c b_RL_follow 3 s _ "VotedFrames$Relay" y := ⟨F, hW.2⟩
  have hC : qa_C y v s s.heap [] := ⟨hW.1, va_S.rf⟩
  have hx := F.1
  have hb := F.2.1
  have hown : s.vm.findClass "VotedFrames$Relay" = some m.cls := F.2.2.2.1
  have hts := F.2.2.2.2
  have hn4 : 4 ≤ qa_n y := E.2.1.2.2.1
  have hn7 : qa_n y ≤ 7 := E.2.1.2.2.2.1
  have hl : lv_has ls 3 [(0, .ref (qa_a y 8 0)), (1, .int r), (2, .int j)] := hl
  refine lv_iload_n hx hb d_RL_follow_0 rfl (lv_at hl 1 rfl) ?_
  refine lv_aload_n hx hb d_RL_follow_1 rfl (lv_at hl 0 rfl) ?_
  refine qa_get (k := 8) (i := 0) (f := 0) (val := .ref (qa_a y 1 0)) E hC Nat.one_pos rfl rfl (by decide) f_RL_7 rfl rfl d_RL_follow_2 ?_
  refine qa_len (k := 1) (i := 0) E hC Nat.one_pos rfl (v0 := nI (qa_n y)) rfl d_RL_follow_5 ?_
  refine lv_imul hx hb d_RL_follow_6 ?_
  refine lv_iconst (v := 1) hx hb d_RL_follow_7 (by decide) ?_
  refine lv_iadd hx hb d_RL_follow_8 ?_
  refine lv_iload_n hx hb d_RL_follow_9 rfl (lv_at hl 2 rfl) ?_
  refine lv_iadd hx hb d_RL_follow_10 ?_
  exact qa_iret hx hb hr hlocks rfl d_RL_follow_11

set_option maxHeartbeats 4000000 in
set_option maxRecDepth 100000 in
theorem c_RL_placeOf (l : Launch) (y : qa_L) (v : qa_M) (r j : Int32) : qa_Pu l y_RL_placeOf b_RL_placeOf 3 (some .int) 0 [.ref (qa_a y 8 0), .int r, .int j] (qa_W y v) (r * nI (qa_n y) + j) := by
  refine qa_ofPu (plainFor_of_name (by decide)) (Nat.le_of_ble_eq_true rfl) ?_
  intro p e s m below meth c ls F hr hlocks hW hl
  have E : qa_E p m c b_RL_placeOf 3 s _ "VotedFrames$Relay" y := ⟨F, hW.2⟩
  have hC : qa_C y v s s.heap [] := ⟨hW.1, va_S.rf⟩
  have hx := F.1
  have hb := F.2.1
  have hown : s.vm.findClass "VotedFrames$Relay" = some m.cls := F.2.2.2.1
  have hts := F.2.2.2.2
  have hn4 : 4 ≤ qa_n y := E.2.1.2.2.1
  have hn7 : qa_n y ≤ 7 := E.2.1.2.2.2.1
  have hl : lv_has ls 3 [(0, .ref (qa_a y 8 0)), (1, .int r), (2, .int j)] := hl
  refine lv_iload_n hx hb d_RL_placeOf_0 rfl (lv_at hl 1 rfl) ?_
  refine lv_aload_n hx hb d_RL_placeOf_1 rfl (lv_at hl 0 rfl) ?_
  refine qa_get (k := 8) (i := 0) (f := 0) (val := .ref (qa_a y 1 0)) E hC Nat.one_pos rfl rfl (by decide) f_RL_7 rfl rfl d_RL_placeOf_2 ?_
  refine qa_len (k := 1) (i := 0) E hC Nat.one_pos rfl (v0 := nI (qa_n y)) rfl d_RL_placeOf_5 ?_
  refine lv_imul hx hb d_RL_placeOf_6 ?_
  refine lv_iload_n hx hb d_RL_placeOf_7 rfl (lv_at hl 2 rfl) ?_
  refine lv_iadd hx hb d_RL_placeOf_8 ?_
  exact qa_iret hx hb hr hlocks rfl d_RL_placeOf_9

set_option maxHeartbeats 4000000 in
set_option maxRecDepth 100000 in
theorem c_RL_got (l : Launch) (y : qa_L) (v : qa_M) (j i : Nat) (x : Int32) (hj : j < qa_n y) (hi : i < qa_n y) : qa_Pu l y_RL_got b_RL_got 4 (some .int) 1 [.ref (qa_a y 8 0), .int (nI j), .int x, .int (nI i)] (qa_W y v) (qm_gt v j x i) := by
  refine qa_ofPu (plainFor_of_name (by decide)) (Nat.le_of_ble_eq_true rfl) ?_
  intro p e s m below meth c ls F hr hlocks hW hl
  have E : qa_E p m c b_RL_got 4 s _ "VotedFrames$Relay" y := ⟨F, hW.2⟩
  have hC : qa_C y v s s.heap [] := ⟨hW.1, va_S.rf⟩
  have hx := F.1
  have hb := F.2.1
  have hown : s.vm.findClass "VotedFrames$Relay" = some m.cls := F.2.2.2.1
  have hts := F.2.2.2.2
  have hn4 : 4 ≤ qa_n y := E.2.1.2.2.1
  have hn7 : qa_n y ≤ 7 := E.2.1.2.2.2.1
  have hl : lv_has ls 4 [(0, .ref (qa_a y 8 0)), (1, .int (nI j)), (2, .int x), (3, .int (nI i))] := hl
  refine lv_aload_n hx hb d_RL_got_0 rfl (lv_at hl 0 rfl) ?_
  refine qa_get (k := 8) (i := 0) (f := 0) (val := .ref (qa_a y 1 0)) E hC Nat.one_pos rfl rfl (by decide) f_RL_7 rfl rfl d_RL_got_1 ?_
  refine lv_iload_n hx hb d_RL_got_4 rfl (lv_at hl 3 rfl) ?_
  refine qa_ald (k := 1) (i := 0) (j := i) E hC Nat.one_pos rfl rfl rfl rfl rfl hi d_RL_got_5 ?_
  refine qa_get (k := 2) (i := i) (f := 12) (val := .int (v 2 i 12)) E hC hi rfl rfl (by decide) f_RL_67 rfl rfl d_RL_got_6 ?_
  refine lv_iload_n hx hb d_RL_got_9 rfl (lv_at hl 1 rfl) ?_
  refine qa_pN (As := [.int (v 2 i 12), .int (nI j)]) E (c_VF_contains l (v 2 i 12) (nI j)) k_RL_57 (qa_fitR (by decide) (by decide)) rfl hl.1 rfl (Nat.le_of_ble_eq_true rfl) d_RL_got_10 ?_
  refine lv_if_eq hx hb d_RL_got_13 rfl (fun h13 => ?_) (fun h13 => ?_)
  · refine lv_iconst (v := 0) hx hb d_RL_got_34 (by decide) ?_
    exact qa_iret hx hb hr hlocks (by unfold qm_gt; rw [if_neg]; rw [qb_e0 h13]; decide) d_RL_got_35
  · refine lv_aload_n hx hb d_RL_got_16 rfl (lv_at hl 0 rfl) ?_
    refine qa_get (k := 8) (i := 0) (f := 0) (val := .ref (qa_a y 1 0)) E hC Nat.one_pos rfl rfl (by decide) f_RL_7 rfl rfl d_RL_got_17 ?_
    refine lv_iload_n hx hb d_RL_got_20 rfl (lv_at hl 1 rfl) ?_
    refine qa_ald (k := 1) (i := 0) (j := j) E hC Nat.one_pos rfl rfl rfl rfl rfl hj d_RL_got_21 ?_
    refine lv_iload_n hx hb d_RL_got_22 rfl (lv_at hl 2 rfl) ?_
    refine lv_iload_n hx hb d_RL_got_23 rfl (lv_at hl 3 rfl) ?_
    refine lv_aload_n hx hb d_RL_got_24 rfl (lv_at hl 0 rfl) ?_
    refine qa_get (k := 8) (i := 0) (f := 6) (val := .int (v 8 0 6)) E hC Nat.one_pos rfl rfl (by decide) f_RL_26 rfl rfl d_RL_got_25 ?_
    refine qa_pV (k := 2) (i := j) (As := [.int x, .int (nI i), .int (v 8 0 6)]) E hC (c_ND_says l y v j x (nI i) (v 8 0 6) hj) hj rfl rfl k_RL_70 (qa_fitR (by decide) (by decide)) rfl hl.1 rfl (Nat.le_of_ble_eq_true rfl) d_RL_got_28 ?_
    refine lv_goto hx hb d_RL_got_31 rfl ?_
    exact qa_iret hx hb hr hlocks (by unfold qm_gt; rw [if_pos (qb_n0 h13)]) d_RL_got_35

set_option maxHeartbeats 4000000 in
set_option maxRecDepth 100000 in
theorem c_RL_beginFrame (l : Launch) (y : qa_L) (v : qa_M) (f : Int32) : qa_Mv l y_RL_beginFrame b_RL_beginFrame 3 3 [.ref (qa_a y 8 0), .int f] y v (fun u => u = qa_up (qa_up v 8 0 6 f) 8 0 7 (qm_rds (qa_m y) (fun k => v 2 k 11) (qa_n y))) := by
  refine qa_ofMv (plainFor_of_name (by decide)) (Nat.le_of_ble_eq_true rfl) ?_
  intro p e s m below meth c ls E hr hlocks hC hl
  have E : qa_E p m c b_RL_beginFrame 3 s _ "VotedFrames$Relay" y := E
  have F := E.1
  have hx := F.1
  have hb := F.2.1
  have hown : s.vm.findClass "VotedFrames$Relay" = some m.cls := F.2.2.2.1
  have hts := F.2.2.2.2
  have hn4 : 4 ≤ qa_n y := E.2.1.2.2.1
  have hn7 : qa_n y ≤ 7 := E.2.1.2.2.2.1
  have hl : lv_has ls 3 [(0, .ref (qa_a y 8 0)), (1, .int f)] := hl
  have loop : ∀ (d k : Nat) (u : qa_M) (H : Heap) (locs : List Loc) (ls : Array Slot), k + d = qa_n y → qa_C y u s H locs → (u = qa_up (qa_up v 8 0 6 f) 8 0 7 (qm_rds (qa_m y) (fun k => v 2 k 11) k)) → lv_has ls 3 [(2, .int (nI k)), (0, .ref (qa_a y 8 0)), (1, .int f)] → W p l e (qa_R 3) s m [.ref (qa_a y 8 0), .int f].toArray below meth c H locs 0 0 (MQ below (va_Qv (fun u => u = qa_up (qa_up v 8 0 6 f) 8 0 7 (qm_rds (qa_m y) (fun k => v 2 k 11) (qa_n y))) (fun u t => qa_W y u t) (qa_A y)) [.ref (qa_a y 8 0), .int f].toArray s 0 0 (qa_A y)) (F0 m 12 ls []) := by
    intro d
    induction d with
    | zero =>
      intro k u H locs ls hkd hC hI hl
      obtain rfl : qa_n y = k := by omega
      refine lv_iload_n hx hb d_RL_beginFrame_12 rfl (lv_at hl 0 rfl) ?_
      refine lv_aload_n hx hb d_RL_beginFrame_13 rfl (lv_at hl 1 rfl) ?_
      refine qa_get (k := 8) (i := 0) (f := 0) (val := .ref (qa_a y 1 0)) E hC Nat.one_pos rfl rfl (by decide) f_RL_7 rfl rfl d_RL_beginFrame_14 ?_
      refine qa_len (k := 1) (i := 0) E hC Nat.one_pos rfl (v0 := nI (qa_n y)) rfl d_RL_beginFrame_17 ?_
      refine lv_icmp_ge hx hb d_RL_beginFrame_18 rfl (fun _ => ?_) (fun h9 => absurd (nI_le (Nat.le_refl _) (by omega)) h9)
      exact qa_mvret E hC hr hlocks hI d_RL_beginFrame_51
    | succ d ih =>
      intro k u H locs ls hkd hC hI hl
      have hk : k < qa_n y := by omega
      refine lv_iload_n hx hb d_RL_beginFrame_12 rfl (lv_at hl 0 rfl) ?_
      refine lv_aload_n hx hb d_RL_beginFrame_13 rfl (lv_at hl 1 rfl) ?_
      refine qa_get (k := 8) (i := 0) (f := 0) (val := .ref (qa_a y 1 0)) E hC Nat.one_pos rfl rfl (by decide) f_RL_7 rfl rfl d_RL_beginFrame_14 ?_
      refine qa_len (k := 1) (i := 0) E hC Nat.one_pos rfl (v0 := nI (qa_n y)) rfl d_RL_beginFrame_17 ?_
      refine lv_icmp_ge hx hb d_RL_beginFrame_18 rfl (fun h9 => absurd h9 (nI_ge hk (by omega))) (fun _ => ?_)
      refine lv_aload_n hx hb d_RL_beginFrame_21 rfl (lv_at hl 1 rfl) ?_
      refine lv_aload_n hx hb d_RL_beginFrame_22 rfl (lv_at hl 1 rfl) ?_
      refine qa_get (k := 8) (i := 0) (f := 7) (val := .int (u 8 0 7)) E hC Nat.one_pos rfl rfl (by decide) f_RL_29 rfl rfl d_RL_beginFrame_23 ?_
      refine lv_aload_n hx hb d_RL_beginFrame_26 rfl (lv_at hl 1 rfl) ?_
      refine qa_get (k := 8) (i := 0) (f := 0) (val := .ref (qa_a y 1 0)) E hC Nat.one_pos rfl rfl (by decide) f_RL_7 rfl rfl d_RL_beginFrame_27 ?_
      refine lv_iload_n hx hb d_RL_beginFrame_30 rfl (lv_at hl 0 rfl) ?_
      refine qa_ald (k := 1) (i := 0) (j := k) E hC Nat.one_pos rfl rfl rfl rfl rfl hk d_RL_beginFrame_31 ?_
      refine lv_aload_n hx hb d_RL_beginFrame_32 rfl (lv_at hl 1 rfl) ?_
      refine qa_get (k := 8) (i := 0) (f := 1) (val := .int (nI (qa_m y))) E hC Nat.one_pos rfl rfl (by decide) f_RL_13 rfl rfl d_RL_beginFrame_33 ?_
      refine qa_pV (k := 2) (i := k) (As := [.int (nI (qa_m y))]) E hC (c_ND_bearable l y u k (nI (qa_m y)) hk) hk rfl rfl k_RL_32 (qa_fitR (by decide) (by decide)) rfl hl.1 rfl (Nat.le_of_ble_eq_true rfl) d_RL_beginFrame_36 ?_
      refine qa_pT (As := [.int (u 8 0 7), .int (qm_min (nI (qa_m y)) ((qm_bc (u 2 k 11) - 1) / 3))]) F (c_JM_max l (u 8 0 7) (qm_min (nI (qa_m y)) ((qm_bc (u 2 k 11) - 1) / 3))) k_RL_38 (qa_fitR (by decide) (by decide)) rfl hl.1 rfl (Nat.le_of_ble_eq_true rfl) d_RL_beginFrame_39 ?_
      refine qa_put (k := 8) (i := 0) (f := 7) E hC Nat.one_pos rfl rfl (by decide) f_RL_29 rfl rfl rfl rfl d_RL_beginFrame_42 (fun H locs hC => ?_)
      refine lv_iinc (v := nI (k + 1)) hx hb d_RL_beginFrame_45 hl (k := 0) rfl (nI_1 k) (by decide) rfl (fun ls hl => ?_)
      have hl : lv_has ls 3 [(2, .int (nI (k + 1))), (0, .ref (qa_a y 8 0)), (1, .int f)] := hl
      refine lv_goto hx hb d_RL_beginFrame_48 rfl ?_
      refine ih (k + 1) _ H locs ls (by omega) hC ?_ (lv_sub hl [0, 1, 2] rfl)
      rw [hI, qa_up_s, qa_up_k (by decide), qa_up_k (by decide), qa_up_up]
      rfl
  refine lv_aload_n hx hb d_RL_beginFrame_0 rfl (lv_at hl 0 rfl) ?_
  refine lv_iload_n hx hb d_RL_beginFrame_1 rfl (lv_at hl 1 rfl) ?_
  refine qa_put (k := 8) (i := 0) (f := 6) E hC Nat.one_pos rfl rfl (by decide) f_RL_26 rfl rfl rfl rfl d_RL_beginFrame_2 (fun H locs hC => ?_)
  refine lv_aload_n hx hb d_RL_beginFrame_5 rfl (lv_at hl 0 rfl) ?_
  refine lv_iconst (v := 0) hx hb d_RL_beginFrame_6 (by decide) ?_
  refine qa_put (k := 8) (i := 0) (f := 7) E hC Nat.one_pos rfl rfl (by decide) f_RL_29 rfl rfl rfl rfl d_RL_beginFrame_7 (fun H locs hC => ?_)
  refine lv_iconst (v := 0) hx hb d_RL_beginFrame_10 (by decide) ?_
  refine lv_istore_n hx hb d_RL_beginFrame_11 rfl hl (by decide) rfl (fun ls hl => ?_)
  have hl : lv_has ls 3 [(2, .int 0), (0, .ref (qa_a y 8 0)), (1, .int f)] := hl
  exact loop (qa_n y) 0 _ H locs ls (by omega) hC rfl (lv_sub hl [0, 1, 2] rfl)
