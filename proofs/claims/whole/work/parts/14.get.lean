set_option maxHeartbeats 4000000 in
set_option maxRecDepth 100000 in
theorem c_ND_sameRow_7 (l : Launch) (y : qa_L) (v : qa_M) (i j : Nat) (hi : i < qa_n y) (hj : j < qa_n y) : qa_Pu l y_ND_sameRow b_ND_sameRow 3 (some .boolean) 0 [.ref (qa_a y 7 i), .ref (qa_a y 7 j)] (qa_W y v) (qb (qm_same (v 7 i) (v 7 j) 4)) := by
  refine qa_ofPu (plainFor_of_name (by decide)) (Nat.le_of_ble_eq_true rfl) ?_
  intro p e s m below meth c ls F hr hlocks hW hl
  have E : qa_E p m c b_ND_sameRow 3 s _ "VotedFrames$Node" y := ⟨F, hW.2⟩
  have hC : qa_C y v s s.heap [] := ⟨hW.1, va_S.rf⟩
  have hx := F.1
  have hb := F.2.1
  have hown : s.vm.findClass "VotedFrames$Node" = some m.cls := F.2.2.2.1
  have hts := F.2.2.2.2
  have hn4 : 4 ≤ qa_n y := E.2.1.2.2.1
  have hn7 : qa_n y ≤ 7 := E.2.1.2.2.2.1
  have hl : lv_has ls 3 [(0, .ref (qa_a y 7 i)), (1, .ref (qa_a y 7 j))] := hl
  have loop : ∀ (d k : Nat) (ls : Array Slot), k + d = 4 → (qm_same (v 7 i) (v 7 j) k = true) → lv_has ls 3 [(2, .int (nI k)), (0, .ref (qa_a y 7 i)), (1, .ref (qa_a y 7 j))] → W p l e (qa_R 0) s m [.ref (qa_a y 7 i), .ref (qa_a y 7 j)].toArray below meth c s.heap [] 0 0 (MQ below (QcRead (qb (qm_same (v 7 i) (v 7 j) 4))) [.ref (qa_a y 7 i), .ref (qa_a y 7 j)].toArray s 0 0 (fun _ => False)) (F0 m 2 ls []) := by
    intro d
    induction d with
    | zero =>
      intro k ls hkd hI hl
      obtain rfl : 4 = k := by omega
      refine lv_iload_n hx hb d_ND_sameRow_2 rfl (lv_at hl 0 rfl) ?_
      refine lv_aload_n hx hb d_ND_sameRow_3 rfl (lv_at hl 1 rfl) ?_
      refine qa_len (k := 7) (i := i) E hC hi rfl (v0 := nI 4) rfl d_ND_sameRow_4 ?_
      refine lv_icmp_ge hx hb d_ND_sameRow_5 rfl (fun _ => ?_) (fun h9 => absurd (show (4 : Int32) ≤ nI 4 by decide) h9)
      refine lv_iconst (v := 1) hx hb d_ND_sameRow_31 (by decide) ?_
      exact qa_zret hx hb hr hlocks (qb_1 hI) rfl d_ND_sameRow_32
    | succ d ih =>
      intro k ls hkd hI hl
      have hk : k < 4 := by omega
      refine lv_iload_n hx hb d_ND_sameRow_2 rfl (lv_at hl 0 rfl) ?_
      refine lv_aload_n hx hb d_ND_sameRow_3 rfl (lv_at hl 1 rfl) ?_
      refine qa_len (k := 7) (i := i) E hC hi rfl (v0 := nI 4) rfl d_ND_sameRow_4 ?_
      refine lv_icmp_ge hx hb d_ND_sameRow_5 rfl (fun h9 => absurd h9 (show ¬ (4 : Int32) ≤ nI k from nI_ge (b := 4) hk (by decide))) (fun _ => ?_)
      refine lv_iload_n hx hb d_ND_sameRow_8 rfl (lv_at hl 0 rfl) ?_
      refine lv_aload_n hx hb d_ND_sameRow_9 rfl (lv_at hl 2 rfl) ?_
      refine qa_len (k := 7) (i := j) E hC hj rfl (v0 := nI 4) rfl d_ND_sameRow_10 ?_
      refine lv_icmp_ge hx hb d_ND_sameRow_11 rfl (fun h9 => absurd h9 (nI_ge hk (by omega))) (fun _ => ?_)
      refine lv_aload_n hx hb d_ND_sameRow_14 rfl (lv_at hl 1 rfl) ?_
      refine lv_iload_n hx hb d_ND_sameRow_15 rfl (lv_at hl 0 rfl) ?_
      refine qa_ild (k := 7) (i := i) (j := k) E hC hi rfl rfl rfl hk d_ND_sameRow_16 ?_
      refine lv_aload_n hx hb d_ND_sameRow_17 rfl (lv_at hl 2 rfl) ?_
      refine lv_iload_n hx hb d_ND_sameRow_18 rfl (lv_at hl 0 rfl) ?_
      refine qa_ild (k := 7) (i := j) (j := k) E hC hj rfl rfl rfl hk d_ND_sameRow_19 ?_
      refine lv_icmp_eq hx hb d_ND_sameRow_20 rfl (fun h20 => ?_) (fun h20 => ?_)
      · refine lv_iinc (v := nI (k + 1)) hx hb d_ND_sameRow_25 hl (k := 0) rfl (nI_1 k) (by decide) rfl (fun ls hl => ?_)
        have hl : lv_has ls 3 [(2, .int (nI (k + 1))), (0, .ref (qa_a y 7 i)), (1, .ref (qa_a y 7 j))] := hl
        refine lv_goto hx hb d_ND_sameRow_28 rfl ?_
        exact ih (k + 1) ls (by omega) (qm_same_s hI h20) (lv_sub hl [0, 1, 2] rfl)
      · refine lv_iconst (v := 0) hx hb d_ND_sameRow_23 (by decide) ?_
        exact qa_zret hx hb hr hlocks (qb_0 (qm_same_f hk h20)) rfl d_ND_sameRow_24
  refine lv_iconst (v := 0) hx hb d_ND_sameRow_0 (by decide) ?_
  refine lv_istore_n hx hb d_ND_sameRow_1 rfl hl (by decide) rfl (fun ls hl => ?_)
  have hl : lv_has ls 3 [(2, .int 0), (0, .ref (qa_a y 7 i)), (1, .ref (qa_a y 7 j))] := hl
  exact loop 4 0 ls (by omega) rfl (lv_sub hl [0, 1, 2] rfl)

set_option maxHeartbeats 4000000 in
set_option maxRecDepth 100000 in
theorem c_ND_sameRow_5 (l : Launch) (y : qa_L) (v : qa_M) (i j : Nat) (hi : i < qa_n y) (hj : j < qa_n y) : qa_Pu l y_ND_sameRow b_ND_sameRow 3 (some .boolean) 0 [.ref (qa_a y 5 i), .ref (qa_a y 5 j)] (qa_W y v) (qb (qm_same (v 5 i) (v 5 j) (qa_n y))) := by
  refine qa_ofPu (plainFor_of_name (by decide)) (Nat.le_of_ble_eq_true rfl) ?_
  intro p e s m below meth c ls F hr hlocks hW hl
  have E : qa_E p m c b_ND_sameRow 3 s _ "VotedFrames$Node" y := ⟨F, hW.2⟩
  have hC : qa_C y v s s.heap [] := ⟨hW.1, va_S.rf⟩
  have hx := F.1
  have hb := F.2.1
  have hown : s.vm.findClass "VotedFrames$Node" = some m.cls := F.2.2.2.1
  have hts := F.2.2.2.2
  have hn4 : 4 ≤ qa_n y := E.2.1.2.2.1
  have hn7 : qa_n y ≤ 7 := E.2.1.2.2.2.1
  have hl : lv_has ls 3 [(0, .ref (qa_a y 5 i)), (1, .ref (qa_a y 5 j))] := hl
  have loop : ∀ (d k : Nat) (ls : Array Slot), k + d = qa_n y → (qm_same (v 5 i) (v 5 j) k = true) → lv_has ls 3 [(2, .int (nI k)), (0, .ref (qa_a y 5 i)), (1, .ref (qa_a y 5 j))] → W p l e (qa_R 0) s m [.ref (qa_a y 5 i), .ref (qa_a y 5 j)].toArray below meth c s.heap [] 0 0 (MQ below (QcRead (qb (qm_same (v 5 i) (v 5 j) (qa_n y)))) [.ref (qa_a y 5 i), .ref (qa_a y 5 j)].toArray s 0 0 (fun _ => False)) (F0 m 2 ls []) := by
    intro d
    induction d with
    | zero =>
      intro k ls hkd hI hl
      obtain rfl : qa_n y = k := by omega
      refine lv_iload_n hx hb d_ND_sameRow_2 rfl (lv_at hl 0 rfl) ?_
      refine lv_aload_n hx hb d_ND_sameRow_3 rfl (lv_at hl 1 rfl) ?_
      refine qa_len (k := 5) (i := i) E hC hi rfl (v0 := nI (qa_n y)) rfl d_ND_sameRow_4 ?_
      refine lv_icmp_ge hx hb d_ND_sameRow_5 rfl (fun _ => ?_) (fun h9 => absurd (nI_le (Nat.le_refl _) (by omega)) h9)
      refine lv_iconst (v := 1) hx hb d_ND_sameRow_31 (by decide) ?_
      exact qa_zret hx hb hr hlocks (qb_1 hI) rfl d_ND_sameRow_32
    | succ d ih =>
      intro k ls hkd hI hl
      have hk : k < qa_n y := by omega
      refine lv_iload_n hx hb d_ND_sameRow_2 rfl (lv_at hl 0 rfl) ?_
      refine lv_aload_n hx hb d_ND_sameRow_3 rfl (lv_at hl 1 rfl) ?_
      refine qa_len (k := 5) (i := i) E hC hi rfl (v0 := nI (qa_n y)) rfl d_ND_sameRow_4 ?_
      refine lv_icmp_ge hx hb d_ND_sameRow_5 rfl (fun h9 => absurd h9 (nI_ge hk (by omega))) (fun _ => ?_)
      refine lv_iload_n hx hb d_ND_sameRow_8 rfl (lv_at hl 0 rfl) ?_
      refine lv_aload_n hx hb d_ND_sameRow_9 rfl (lv_at hl 2 rfl) ?_
      refine qa_len (k := 5) (i := j) E hC hj rfl (v0 := nI (qa_n y)) rfl d_ND_sameRow_10 ?_
      refine lv_icmp_ge hx hb d_ND_sameRow_11 rfl (fun h9 => absurd h9 (nI_ge hk (by omega))) (fun _ => ?_)
      refine lv_aload_n hx hb d_ND_sameRow_14 rfl (lv_at hl 1 rfl) ?_
      refine lv_iload_n hx hb d_ND_sameRow_15 rfl (lv_at hl 0 rfl) ?_
      refine qa_ild (k := 5) (i := i) (j := k) E hC hi rfl rfl rfl hk d_ND_sameRow_16 ?_
      refine lv_aload_n hx hb d_ND_sameRow_17 rfl (lv_at hl 2 rfl) ?_
      refine lv_iload_n hx hb d_ND_sameRow_18 rfl (lv_at hl 0 rfl) ?_
      refine qa_ild (k := 5) (i := j) (j := k) E hC hj rfl rfl rfl hk d_ND_sameRow_19 ?_
      refine lv_icmp_eq hx hb d_ND_sameRow_20 rfl (fun h20 => ?_) (fun h20 => ?_)
      · refine lv_iinc (v := nI (k + 1)) hx hb d_ND_sameRow_25 hl (k := 0) rfl (nI_1 k) (by decide) rfl (fun ls hl => ?_)
        have hl : lv_has ls 3 [(2, .int (nI (k + 1))), (0, .ref (qa_a y 5 i)), (1, .ref (qa_a y 5 j))] := hl
        refine lv_goto hx hb d_ND_sameRow_28 rfl ?_
        exact ih (k + 1) ls (by omega) (qm_same_s hI h20) (lv_sub hl [0, 1, 2] rfl)
      · refine lv_iconst (v := 0) hx hb d_ND_sameRow_23 (by decide) ?_
        exact qa_zret hx hb hr hlocks (qb_0 (qm_same_f hk h20)) rfl d_ND_sameRow_24
  refine lv_iconst (v := 0) hx hb d_ND_sameRow_0 (by decide) ?_
  refine lv_istore_n hx hb d_ND_sameRow_1 rfl hl (by decide) rfl (fun ls hl => ?_)
  have hl : lv_has ls 3 [(2, .int 0), (0, .ref (qa_a y 5 i)), (1, .ref (qa_a y 5 j))] := hl
  exact loop (qa_n y) 0 ls (by omega) rfl (lv_sub hl [0, 1, 2] rfl)

set_option maxHeartbeats 4000000 in
set_option maxRecDepth 100000 in
theorem c_ND_holdsTheSameAs (l : Launch) (y : qa_L) (v : qa_M) (i j : Nat) (hi : i < qa_n y) (hj : j < qa_n y) : qa_Pu l y_ND_holdsTheSameAs b_ND_holdsTheSameAs 2 (some .boolean) 1 [.ref (qa_a y 2 i), .ref (qa_a y 2 j)] (qa_W y v) (qb (qm_alk y v i j)) := by
  refine qa_ofPu (plainFor_of_name (by decide)) (Nat.le_of_ble_eq_true rfl) ?_
  intro p e s m below meth c ls F hr hlocks hW hl
  have E : qa_E p m c b_ND_holdsTheSameAs 2 s _ "VotedFrames$Node" y := ⟨F, hW.2⟩
  have hC : qa_C y v s s.heap [] := ⟨hW.1, va_S.rf⟩
  have hx := F.1
  have hb := F.2.1
  have hown : s.vm.findClass "VotedFrames$Node" = some m.cls := F.2.2.2.1
  have hts := F.2.2.2.2
  have hn4 : 4 ≤ qa_n y := E.2.1.2.2.1
  have hn7 : qa_n y ≤ 7 := E.2.1.2.2.2.1
  have hl : lv_has ls 2 [(0, .ref (qa_a y 2 i)), (1, .ref (qa_a y 2 j))] := hl
  refine lv_aload_n hx hb d_ND_holdsTheSameAs_0 rfl (lv_at hl 0 rfl) ?_
  refine qa_get (k := 2) (i := i) (f := 11) (val := .int (v 2 i 11)) E hC hi rfl rfl (by decide) f_ND_34 rfl rfl d_ND_holdsTheSameAs_1 ?_
  refine lv_aload_n hx hb d_ND_holdsTheSameAs_4 rfl (lv_at hl 1 rfl) ?_
  refine qa_get (k := 2) (i := j) (f := 11) (val := .int (v 2 j 11)) E hC hj rfl rfl (by decide) f_ND_34 rfl rfl d_ND_holdsTheSameAs_5 ?_
  refine lv_icmp_ne hx hb d_ND_holdsTheSameAs_8 rfl (fun h8 => ?_) (fun h8 => ?_)
  · refine lv_iconst (v := 0) hx hb d_ND_holdsTheSameAs_43 (by decide) ?_
    exact qa_zret hx hb hr hlocks (qb_0 (by simp only [qm_alk]; rw [decide_eq_false h8]; rfl)) rfl d_ND_holdsTheSameAs_44
  · refine lv_aload_n hx hb d_ND_holdsTheSameAs_11 rfl (lv_at hl 0 rfl) ?_
    refine qa_get (k := 2) (i := i) (f := 5) (val := .ref (qa_a y 7 i)) E hC hi rfl rfl (by decide) f_ND_9 rfl rfl d_ND_holdsTheSameAs_12 ?_
    refine lv_aload_n hx hb d_ND_holdsTheSameAs_15 rfl (lv_at hl 1 rfl) ?_
    refine qa_get (k := 2) (i := j) (f := 5) (val := .ref (qa_a y 7 j)) E hC hj rfl rfl (by decide) f_ND_9 rfl rfl d_ND_holdsTheSameAs_16 ?_
    refine qa_pS (As := [.ref (qa_a y 7 i), .ref (qa_a y 7 j)]) E hC (c_ND_sameRow_7 l y v i j hi hj) k_ND_73 (qa_fitR (by decide) (by decide)) rfl hl.1 rfl (Nat.le_of_ble_eq_true rfl) d_ND_holdsTheSameAs_19 ?_
    refine lv_if_eq hx hb d_ND_holdsTheSameAs_22 rfl (fun h22 => ?_) (fun h22 => ?_)
    · refine lv_iconst (v := 0) hx hb d_ND_holdsTheSameAs_43 (by decide) ?_
      exact qa_zret hx hb hr hlocks (qb_0 (by simp only [qm_alk]; rw [qb_e0 h22, Bool.and_false, Bool.false_and])) rfl d_ND_holdsTheSameAs_44
    · refine lv_aload_n hx hb d_ND_holdsTheSameAs_25 rfl (lv_at hl 0 rfl) ?_
      refine qa_get (k := 2) (i := i) (f := 3) (val := .ref (qa_a y 5 i)) E hC hi rfl rfl (by decide) f_ND_28 rfl rfl d_ND_holdsTheSameAs_26 ?_
      refine lv_aload_n hx hb d_ND_holdsTheSameAs_29 rfl (lv_at hl 1 rfl) ?_
      refine qa_get (k := 2) (i := j) (f := 3) (val := .ref (qa_a y 5 j)) E hC hj rfl rfl (by decide) f_ND_28 rfl rfl d_ND_holdsTheSameAs_30 ?_
      refine qa_pS (As := [.ref (qa_a y 5 i), .ref (qa_a y 5 j)]) E hC (c_ND_sameRow_5 l y v i j hi hj) k_ND_73 (qa_fitR (by decide) (by decide)) rfl hl.1 rfl (Nat.le_of_ble_eq_true rfl) d_ND_holdsTheSameAs_33 ?_
      refine lv_if_eq hx hb d_ND_holdsTheSameAs_36 rfl (fun h36 => ?_) (fun h36 => ?_)
      · refine lv_iconst (v := 0) hx hb d_ND_holdsTheSameAs_43 (by decide) ?_
        exact qa_zret hx hb hr hlocks (qb_0 (by simp only [qm_alk]; rw [qb_e0 h36, Bool.and_false])) rfl d_ND_holdsTheSameAs_44
      · refine lv_iconst (v := 1) hx hb d_ND_holdsTheSameAs_39 (by decide) ?_
        refine lv_goto hx hb d_ND_holdsTheSameAs_40 rfl ?_
        exact qa_zret hx hb hr hlocks (qb_1 (by simp only [qm_alk]; rw [qb_n0 h22, qb_n0 h36, decide_eq_true h8]; rfl)) rfl d_ND_holdsTheSameAs_44
set_option maxHeartbeats 4000000 in
set_option maxRecDepth 100000 in
theorem c_VF_isNode (l : Launch) (y : qa_L) (v : qa_M) (z : Int32) : qa_Pu l y_VF_isNode b_VF_isNode 2 (some .boolean) 1 [.ref (qa_a y 0 0), .int z] (qa_W y v) (qb (qm_isn (qa_n y) z)) := by
  refine qa_ofPu (plainFor_of_name (by decide)) (Nat.le_of_ble_eq_true rfl) ?_
  intro p e s m below meth c ls F hr hlocks hW hl
  have E : qa_E p m c b_VF_isNode 2 s _ "VotedFrames" y := ⟨F, hW.2⟩
  have hC : qa_C y v s s.heap [] := ⟨hW.1, va_S.rf⟩
  have hx := F.1
  have hb := F.2.1
  have hown : s.vm.findClass "VotedFrames" = some m.cls := F.2.2.2.1
  have hts := F.2.2.2.2
  have hn4 : 4 ≤ qa_n y := E.2.1.2.2.1
  have hn7 : qa_n y ≤ 7 := E.2.1.2.2.2.1
  have hl : lv_has ls 2 [(0, .ref (qa_a y 0 0)), (1, .int z)] := hl
  refine lv_iload_n hx hb d_VF_isNode_0 rfl (lv_at hl 1 rfl) ?_
  refine lv_iconst (v := 0) hx hb d_VF_isNode_1 (by decide) ?_
  refine lv_aload_n hx hb d_VF_isNode_2 rfl (lv_at hl 0 rfl) ?_
  refine qa_get (k := 0) (i := 0) (f := 0) (val := .int (nI (qa_n y))) E hC Nat.one_pos rfl rfl (by decide) f_VF_13 rfl rfl d_VF_isNode_3 ?_
  refine lv_iconst (v := 1) hx hb d_VF_isNode_6 (by decide) ?_
  refine lv_isub hx hb d_VF_isNode_7 ?_
  refine qa_pT (As := [.int z, .int 0, .int ((nI (qa_n y)) - 1)]) F (c_VF_within l z 0 ((nI (qa_n y)) - 1)) k_VF_17 (qa_fitR (by decide) (by decide)) rfl hl.1 rfl (Nat.le_of_ble_eq_true rfl) d_VF_isNode_8 ?_
  exact qa_zret hx hb hr hlocks rfl (qb_nar _) d_VF_isNode_11

set_option maxHeartbeats 4000000 in
set_option maxRecDepth 100000 in
theorem c_VF_fitsInstruction (l : Launch) (y : qa_L) (v : qa_M) (op x : Int32) : qa_Pu l y_VF_fitsInstruction b_VF_fitsInstruction 3 (some .boolean) 2 [.ref (qa_a y 0 0), .int op, .int x] (qa_W y v) (qb (qm_fits (qa_n y) op x)) := by
  refine qa_ofPu (plainFor_of_name (by decide)) (Nat.le_of_ble_eq_true rfl) ?_
  intro p e s m below meth c ls F hr hlocks hW hl
  have E : qa_E p m c b_VF_fitsInstruction 3 s _ "VotedFrames" y := ⟨F, hW.2⟩
  have hC : qa_C y v s s.heap [] := ⟨hW.1, va_S.rf⟩
  have hx := F.1
  have hb := F.2.1
  have hown : s.vm.findClass "VotedFrames" = some m.cls := F.2.2.2.1
  have hts := F.2.2.2.2
  have hn4 : 4 ≤ qa_n y := E.2.1.2.2.1
  have hn7 : qa_n y ≤ 7 := E.2.1.2.2.2.1
  have hl : lv_has ls 3 [(0, .ref (qa_a y 0 0)), (1, .int op), (2, .int x)] := hl
  refine lv_iload_n hx hb d_VF_fitsInstruction_0 rfl (lv_at hl 1 rfl) ?_
  by_cases k1 : op = 1
  · refine lv_lookup (off := 35) (tgt := 36) hx hb d_VF_fitsInstruction_1 rfl (by rw [k1]; rfl) rfl ?_
    refine lv_aload_n hx hb d_VF_fitsInstruction_36 rfl (lv_at hl 0 rfl) ?_
    refine lv_iload_n hx hb d_VF_fitsInstruction_37 rfl (lv_at hl 2 rfl) ?_
    refine qa_pV (k := 0) (i := 0) (As := [.int x]) E hC (c_VF_isNode l y v x) Nat.one_pos rfl rfl k_VF_72 (qa_fitR (by decide) (by decide)) rfl hl.1 rfl (Nat.le_of_ble_eq_true rfl) d_VF_fitsInstruction_38 ?_
    exact qa_zret hx hb hr hlocks (by unfold qm_fits; first | (rw [if_pos k1]; done) | (rw [if_neg k1, if_pos k2]; done) | (rw [if_neg k1, if_neg k2, if_pos k8]; done) | (rw [if_neg k1, if_neg k2, if_neg k8]; rfl)) (qb_nar _) d_VF_fitsInstruction_41
  by_cases k2 : op = 2
  · refine lv_lookup (off := 41) (tgt := 42) hx hb d_VF_fitsInstruction_1 rfl (by rw [k2]; rfl) rfl ?_
    refine lv_iload_n hx hb d_VF_fitsInstruction_42 rfl (lv_at hl 2 rfl) ?_
    refine lv_iconst (v := 0) hx hb d_VF_fitsInstruction_43 (by decide) ?_
    refine lv_iconst (v := 3) hx hb d_VF_fitsInstruction_44 (by decide) ?_
    refine qa_pT (As := [.int x, .int 0, .int 3]) F (c_VF_within l x 0 3) k_VF_17 (qa_fitR (by decide) (by decide)) rfl hl.1 rfl (Nat.le_of_ble_eq_true rfl) d_VF_fitsInstruction_45 ?_
    exact qa_zret hx hb hr hlocks (by unfold qm_fits; first | (rw [if_pos k1]; done) | (rw [if_neg k1, if_pos k2]; done) | (rw [if_neg k1, if_neg k2, if_pos k8]; done) | (rw [if_neg k1, if_neg k2, if_neg k8]; rfl)) (qb_nar _) d_VF_fitsInstruction_48
  by_cases k8 : op = 8
  · refine lv_lookup (off := 48) (tgt := 49) hx hb d_VF_fitsInstruction_1 rfl (by rw [k8]; rfl) rfl ?_
    refine lv_iload_n hx hb d_VF_fitsInstruction_49 rfl (lv_at hl 2 rfl) ?_
    refine lv_iconst (v := 0) hx hb d_VF_fitsInstruction_50 (by decide) ?_
    refine lv_bipush (v := 11) hx hb d_VF_fitsInstruction_51 (by decide) ?_
    refine qa_pT (As := [.int x, .int 0, .int 11]) F (c_VF_within l x 0 11) k_VF_17 (qa_fitR (by decide) (by decide)) rfl hl.1 rfl (Nat.le_of_ble_eq_true rfl) d_VF_fitsInstruction_53 ?_
    exact qa_zret hx hb hr hlocks (by unfold qm_fits; first | (rw [if_pos k1]; done) | (rw [if_neg k1, if_pos k2]; done) | (rw [if_neg k1, if_neg k2, if_pos k8]; done) | (rw [if_neg k1, if_neg k2, if_neg k8]; rfl)) (qb_nar _) d_VF_fitsInstruction_56
  refine lv_lookup (off := 56) (tgt := 57) hx hb d_VF_fitsInstruction_1 rfl (show Op.lookupswitch.offset [(1, 35), (2, 41), (8, 48)] 56 _ = 56 from ((lv_osw k1 rfl).trans ((lv_osw k2 rfl).trans ((lv_osw k8 rfl).trans rfl)))) rfl ?_
  refine lv_iconst (v := 1) hx hb d_VF_fitsInstruction_57 (by decide) ?_
  exact qa_zret hx hb hr hlocks (by unfold qm_fits; first | (rw [if_pos k1]; done) | (rw [if_neg k1, if_pos k2]; done) | (rw [if_neg k1, if_neg k2, if_pos k8]; done) | (rw [if_neg k1, if_neg k2, if_neg k8]; rfl)) rfl d_VF_fitsInstruction_58

set_option maxHeartbeats 4000000 in
set_option maxRecDepth 100000 in
theorem c_VF_frame (l : Launch) (y : qa_L) (v : qa_M) : qa_Pu l y_VF_frame b_VF_frame 1 (some .int) 0 [.ref (qa_a y 0 0)] (qa_W y v) (v 0 0 11) := by
  refine qa_ofPu (plainFor_of_name (by decide)) (Nat.le_of_ble_eq_true rfl) ?_
  intro p e s m below meth c ls F hr hlocks hW hl
  have E : qa_E p m c b_VF_frame 1 s _ "VotedFrames" y := ⟨F, hW.2⟩
  have hC : qa_C y v s s.heap [] := ⟨hW.1, va_S.rf⟩
  have hx := F.1
  have hb := F.2.1
  have hown : s.vm.findClass "VotedFrames" = some m.cls := F.2.2.2.1
  have hts := F.2.2.2.2
  have hn4 : 4 ≤ qa_n y := E.2.1.2.2.1
  have hn7 : qa_n y ≤ 7 := E.2.1.2.2.2.1
  have hl : lv_has ls 1 [(0, .ref (qa_a y 0 0))] := hl
  refine lv_aload_n hx hb d_VF_frame_0 rfl (lv_at hl 0 rfl) ?_
  refine qa_get (k := 0) (i := 0) (f := 11) (val := .int (v 0 0 11)) E hC Nat.one_pos rfl rfl (by decide) f_VF_127 rfl rfl d_VF_frame_1 ?_
  exact qa_iret hx hb hr hlocks rfl d_VF_frame_4

set_option maxHeartbeats 4000000 in
set_option maxRecDepth 100000 in
theorem c_VF_reading (l : Launch) (y : qa_L) (v : qa_M) (z : Int32) : qa_Pu l y_VF_reading b_VF_reading 2 (some .int) 2 [.ref (qa_a y 0 0), .int z] (qa_W y v) (if qm_isn (qa_n y) z = true then v 2 (qm_ix z) 6 else 0) := by
  refine qa_ofPu (plainFor_of_name (by decide)) (Nat.le_of_ble_eq_true rfl) ?_
  intro p e s m below meth c ls F hr hlocks hW hl
  have E : qa_E p m c b_VF_reading 2 s _ "VotedFrames" y := ⟨F, hW.2⟩
  have hC : qa_C y v s s.heap [] := ⟨hW.1, va_S.rf⟩
  have hx := F.1
  have hb := F.2.1
  have hown : s.vm.findClass "VotedFrames" = some m.cls := F.2.2.2.1
  have hts := F.2.2.2.2
  have hn4 : 4 ≤ qa_n y := E.2.1.2.2.1
  have hn7 : qa_n y ≤ 7 := E.2.1.2.2.2.1
  have hl : lv_has ls 2 [(0, .ref (qa_a y 0 0)), (1, .int z)] := hl
  by_cases g1 : qm_isn (qa_n y) z = true
  · obtain ⟨i, hi, rfl⟩ := qm_wi_n (by omega) (by omega) g1
    have hl : lv_has ls 2 [(0, .ref (qa_a y 0 0)), (1, .int (nI i))] := hl
    refine lv_aload_n hx hb d_VF_reading_0 rfl (lv_at hl 0 rfl) ?_
    refine lv_iload_n hx hb d_VF_reading_1 rfl (lv_at hl 1 rfl) ?_
    refine qa_pV (k := 0) (i := 0) (As := [.int (nI i)]) E hC (c_VF_isNode l y v (nI i)) Nat.one_pos rfl rfl k_VF_72 (qa_fitR (by decide) (by decide)) rfl hl.1 rfl (Nat.le_of_ble_eq_true rfl) d_VF_reading_2 ?_
    refine lv_if_eq hx hb d_VF_reading_5 rfl (fun h9 => absurd h9 (qb_nz g1)) (fun _ => ?_)
    refine lv_aload_n hx hb d_VF_reading_8 rfl (lv_at hl 0 rfl) ?_
    refine qa_get (k := 0) (i := 0) (f := 3) (val := .ref (qa_a y 1 0)) E hC Nat.one_pos rfl rfl (by decide) f_VF_31 rfl rfl d_VF_reading_9 ?_
    refine lv_iload_n hx hb d_VF_reading_12 rfl (lv_at hl 1 rfl) ?_
    refine qa_ald (k := 1) (i := 0) (j := i) E hC Nat.one_pos rfl rfl rfl rfl rfl hi d_VF_reading_13 ?_
    refine qa_get (k := 2) (i := i) (f := 6) (val := .int (v 2 i 6)) E hC hi rfl rfl (by decide) f_VF_80 rfl rfl d_VF_reading_14 ?_
    refine lv_goto hx hb d_VF_reading_17 rfl ?_
    exact qa_iret hx hb hr hlocks (by rw [if_pos g1, qm_ix_n (by omega)]) d_VF_reading_21
  · refine lv_aload_n hx hb d_VF_reading_0 rfl (lv_at hl 0 rfl) ?_
    refine lv_iload_n hx hb d_VF_reading_1 rfl (lv_at hl 1 rfl) ?_
    refine qa_pV (k := 0) (i := 0) (As := [.int z]) E hC (c_VF_isNode l y v z) Nat.one_pos rfl rfl k_VF_72 (qa_fitR (by decide) (by decide)) rfl hl.1 rfl (Nat.le_of_ble_eq_true rfl) d_VF_reading_2 ?_
    refine lv_if_eq hx hb d_VF_reading_5 rfl (fun _ => ?_) (fun h9 => absurd (qb_zf (Bool.eq_false_iff.mpr g1)) h9)
    refine lv_iconst (v := 0) hx hb d_VF_reading_20 (by decide) ?_
    exact qa_iret hx hb hr hlocks (by rw [if_neg g1]) d_VF_reading_21

set_option maxHeartbeats 4000000 in
set_option maxRecDepth 100000 in
theorem c_VF_correction (l : Launch) (y : qa_L) (v : qa_M) (z : Int32) : qa_Pu l y_VF_correction b_VF_correction 2 (some .int) 2 [.ref (qa_a y 0 0), .int z] (qa_W y v) (if qm_isn (qa_n y) z = true then v 2 (qm_ix z) 14 else 0) := by
  refine qa_ofPu (plainFor_of_name (by decide)) (Nat.le_of_ble_eq_true rfl) ?_
  intro p e s m below meth c ls F hr hlocks hW hl
  have E : qa_E p m c b_VF_correction 2 s _ "VotedFrames" y := ⟨F, hW.2⟩
  have hC : qa_C y v s s.heap [] := ⟨hW.1, va_S.rf⟩
  have hx := F.1
  have hb := F.2.1
  have hown : s.vm.findClass "VotedFrames" = some m.cls := F.2.2.2.1
  have hts := F.2.2.2.2
  have hn4 : 4 ≤ qa_n y := E.2.1.2.2.1
  have hn7 : qa_n y ≤ 7 := E.2.1.2.2.2.1
  have hl : lv_has ls 2 [(0, .ref (qa_a y 0 0)), (1, .int z)] := hl
  by_cases g1 : qm_isn (qa_n y) z = true
  · obtain ⟨i, hi, rfl⟩ := qm_wi_n (by omega) (by omega) g1
    have hl : lv_has ls 2 [(0, .ref (qa_a y 0 0)), (1, .int (nI i))] := hl
    refine lv_aload_n hx hb d_VF_correction_0 rfl (lv_at hl 0 rfl) ?_
    refine lv_iload_n hx hb d_VF_correction_1 rfl (lv_at hl 1 rfl) ?_
    refine qa_pV (k := 0) (i := 0) (As := [.int (nI i)]) E hC (c_VF_isNode l y v (nI i)) Nat.one_pos rfl rfl k_VF_72 (qa_fitR (by decide) (by decide)) rfl hl.1 rfl (Nat.le_of_ble_eq_true rfl) d_VF_correction_2 ?_
    refine lv_if_eq hx hb d_VF_correction_5 rfl (fun h9 => absurd h9 (qb_nz g1)) (fun _ => ?_)
    refine lv_aload_n hx hb d_VF_correction_8 rfl (lv_at hl 0 rfl) ?_
    refine qa_get (k := 0) (i := 0) (f := 3) (val := .ref (qa_a y 1 0)) E hC Nat.one_pos rfl rfl (by decide) f_VF_31 rfl rfl d_VF_correction_9 ?_
    refine lv_iload_n hx hb d_VF_correction_12 rfl (lv_at hl 1 rfl) ?_
    refine qa_ald (k := 1) (i := 0) (j := i) E hC Nat.one_pos rfl rfl rfl rfl rfl hi d_VF_correction_13 ?_
    refine qa_get (k := 2) (i := i) (f := 14) (val := .int (v 2 i 14)) E hC hi rfl rfl (by decide) f_VF_130 rfl rfl d_VF_correction_14 ?_
    refine lv_goto hx hb d_VF_correction_17 rfl ?_
    exact qa_iret hx hb hr hlocks (by rw [if_pos g1, qm_ix_n (by omega)]) d_VF_correction_21
  · refine lv_aload_n hx hb d_VF_correction_0 rfl (lv_at hl 0 rfl) ?_
    refine lv_iload_n hx hb d_VF_correction_1 rfl (lv_at hl 1 rfl) ?_
    refine qa_pV (k := 0) (i := 0) (As := [.int z]) E hC (c_VF_isNode l y v z) Nat.one_pos rfl rfl k_VF_72 (qa_fitR (by decide) (by decide)) rfl hl.1 rfl (Nat.le_of_ble_eq_true rfl) d_VF_correction_2 ?_
    refine lv_if_eq hx hb d_VF_correction_5 rfl (fun _ => ?_) (fun h9 => absurd (qb_zf (Bool.eq_false_iff.mpr g1)) h9)
    refine lv_iconst (v := 0) hx hb d_VF_correction_20 (by decide) ?_
    exact qa_iret hx hb hr hlocks (by rw [if_neg g1]) d_VF_correction_21

set_option maxHeartbeats 4000000 in
set_option maxRecDepth 100000 in
theorem c_VF_members (l : Launch) (y : qa_L) (v : qa_M) (z : Int32) : qa_Pu l y_VF_members b_VF_members 2 (some .int) 2 [.ref (qa_a y 0 0), .int z] (qa_W y v) (if qm_isn (qa_n y) z = true then v 2 (qm_ix z) 11 else 0) := by
  refine qa_ofPu (plainFor_of_name (by decide)) (Nat.le_of_ble_eq_true rfl) ?_
  intro p e s m below meth c ls F hr hlocks hW hl
  have E : qa_E p m c b_VF_members 2 s _ "VotedFrames" y := ⟨F, hW.2⟩
  have hC : qa_C y v s s.heap [] := ⟨hW.1, va_S.rf⟩
  have hx := F.1
  have hb := F.2.1
  have hown : s.vm.findClass "VotedFrames" = some m.cls := F.2.2.2.1
  have hts := F.2.2.2.2
  have hn4 : 4 ≤ qa_n y := E.2.1.2.2.1
  have hn7 : qa_n y ≤ 7 := E.2.1.2.2.2.1
  have hl : lv_has ls 2 [(0, .ref (qa_a y 0 0)), (1, .int z)] := hl
  by_cases g1 : qm_isn (qa_n y) z = true
  · obtain ⟨i, hi, rfl⟩ := qm_wi_n (by omega) (by omega) g1
    have hl : lv_has ls 2 [(0, .ref (qa_a y 0 0)), (1, .int (nI i))] := hl
    refine lv_aload_n hx hb d_VF_members_0 rfl (lv_at hl 0 rfl) ?_
    refine lv_iload_n hx hb d_VF_members_1 rfl (lv_at hl 1 rfl) ?_
    refine qa_pV (k := 0) (i := 0) (As := [.int (nI i)]) E hC (c_VF_isNode l y v (nI i)) Nat.one_pos rfl rfl k_VF_72 (qa_fitR (by decide) (by decide)) rfl hl.1 rfl (Nat.le_of_ble_eq_true rfl) d_VF_members_2 ?_
    refine lv_if_eq hx hb d_VF_members_5 rfl (fun h9 => absurd h9 (qb_nz g1)) (fun _ => ?_)
    refine lv_aload_n hx hb d_VF_members_8 rfl (lv_at hl 0 rfl) ?_
    refine qa_get (k := 0) (i := 0) (f := 3) (val := .ref (qa_a y 1 0)) E hC Nat.one_pos rfl rfl (by decide) f_VF_31 rfl rfl d_VF_members_9 ?_
    refine lv_iload_n hx hb d_VF_members_12 rfl (lv_at hl 1 rfl) ?_
    refine qa_ald (k := 1) (i := 0) (j := i) E hC Nat.one_pos rfl rfl rfl rfl rfl hi d_VF_members_13 ?_
    refine qa_get (k := 2) (i := i) (f := 11) (val := .int (v 2 i 11)) E hC hi rfl rfl (by decide) f_VF_142 rfl rfl d_VF_members_14 ?_
    refine lv_goto hx hb d_VF_members_17 rfl ?_
    exact qa_iret hx hb hr hlocks (by rw [if_pos g1, qm_ix_n (by omega)]) d_VF_members_21
  · refine lv_aload_n hx hb d_VF_members_0 rfl (lv_at hl 0 rfl) ?_
    refine lv_iload_n hx hb d_VF_members_1 rfl (lv_at hl 1 rfl) ?_
    refine qa_pV (k := 0) (i := 0) (As := [.int z]) E hC (c_VF_isNode l y v z) Nat.one_pos rfl rfl k_VF_72 (qa_fitR (by decide) (by decide)) rfl hl.1 rfl (Nat.le_of_ble_eq_true rfl) d_VF_members_2 ?_
    refine lv_if_eq hx hb d_VF_members_5 rfl (fun _ => ?_) (fun h9 => absurd (qb_zf (Bool.eq_false_iff.mpr g1)) h9)
    refine lv_iconst (v := 0) hx hb d_VF_members_20 (by decide) ?_
    exact qa_iret hx hb hr hlocks (by rw [if_neg g1]) d_VF_members_21

set_option maxHeartbeats 4000000 in
set_option maxRecDepth 100000 in
theorem c_VF_accused (l : Launch) (y : qa_L) (v : qa_M) (z : Int32) : qa_Pu l y_VF_accused b_VF_accused 2 (some .int) 2 [.ref (qa_a y 0 0), .int z] (qa_W y v) (if qm_isn (qa_n y) z = true then v 2 (qm_ix z) 13 else 0) := by
  refine qa_ofPu (plainFor_of_name (by decide)) (Nat.le_of_ble_eq_true rfl) ?_
  intro p e s m below meth c ls F hr hlocks hW hl
  have E : qa_E p m c b_VF_accused 2 s _ "VotedFrames" y := ⟨F, hW.2⟩
  have hC : qa_C y v s s.heap [] := ⟨hW.1, va_S.rf⟩
  have hx := F.1
  have hb := F.2.1
  have hown : s.vm.findClass "VotedFrames" = some m.cls := F.2.2.2.1
  have hts := F.2.2.2.2
  have hn4 : 4 ≤ qa_n y := E.2.1.2.2.1
  have hn7 : qa_n y ≤ 7 := E.2.1.2.2.2.1
  have hl : lv_has ls 2 [(0, .ref (qa_a y 0 0)), (1, .int z)] := hl
  by_cases g1 : qm_isn (qa_n y) z = true
  · obtain ⟨i, hi, rfl⟩ := qm_wi_n (by omega) (by omega) g1
    have hl : lv_has ls 2 [(0, .ref (qa_a y 0 0)), (1, .int (nI i))] := hl
    refine lv_aload_n hx hb d_VF_accused_0 rfl (lv_at hl 0 rfl) ?_
    refine lv_iload_n hx hb d_VF_accused_1 rfl (lv_at hl 1 rfl) ?_
    refine qa_pV (k := 0) (i := 0) (As := [.int (nI i)]) E hC (c_VF_isNode l y v (nI i)) Nat.one_pos rfl rfl k_VF_72 (qa_fitR (by decide) (by decide)) rfl hl.1 rfl (Nat.le_of_ble_eq_true rfl) d_VF_accused_2 ?_
    refine lv_if_eq hx hb d_VF_accused_5 rfl (fun h9 => absurd h9 (qb_nz g1)) (fun _ => ?_)
    refine lv_aload_n hx hb d_VF_accused_8 rfl (lv_at hl 0 rfl) ?_
    refine qa_get (k := 0) (i := 0) (f := 3) (val := .ref (qa_a y 1 0)) E hC Nat.one_pos rfl rfl (by decide) f_VF_31 rfl rfl d_VF_accused_9 ?_
    refine lv_iload_n hx hb d_VF_accused_12 rfl (lv_at hl 1 rfl) ?_
    refine qa_ald (k := 1) (i := 0) (j := i) E hC Nat.one_pos rfl rfl rfl rfl rfl hi d_VF_accused_13 ?_
    refine qa_get (k := 2) (i := i) (f := 13) (val := .int (v 2 i 13)) E hC hi rfl rfl (by decide) f_VF_149 rfl rfl d_VF_accused_14 ?_
    refine lv_goto hx hb d_VF_accused_17 rfl ?_
    exact qa_iret hx hb hr hlocks (by rw [if_pos g1, qm_ix_n (by omega)]) d_VF_accused_21
  · refine lv_aload_n hx hb d_VF_accused_0 rfl (lv_at hl 0 rfl) ?_
    refine lv_iload_n hx hb d_VF_accused_1 rfl (lv_at hl 1 rfl) ?_
    refine qa_pV (k := 0) (i := 0) (As := [.int z]) E hC (c_VF_isNode l y v z) Nat.one_pos rfl rfl k_VF_72 (qa_fitR (by decide) (by decide)) rfl hl.1 rfl (Nat.le_of_ble_eq_true rfl) d_VF_accused_2 ?_
    refine lv_if_eq hx hb d_VF_accused_5 rfl (fun _ => ?_) (fun h9 => absurd (qb_zf (Bool.eq_false_iff.mpr g1)) h9)
    refine lv_iconst (v := 0) hx hb d_VF_accused_20 (by decide) ?_
    exact qa_iret hx hb hr hlocks (by rw [if_neg g1]) d_VF_accused_21

set_option maxHeartbeats 4000000 in
set_option maxRecDepth 100000 in
theorem c_VF_bears (l : Launch) (y : qa_L) (v : qa_M) (z : Int32) : qa_Pu l y_VF_bears b_VF_bears 2 (some .int) 3 [.ref (qa_a y 0 0), .int z] (qa_W y v) (if qm_isn (qa_n y) z = true then qm_min (nI (qa_m y)) ((qm_bc (v 2 (qm_ix z) 11) - 1) / 3) else 0) := by
  refine qa_ofPu (plainFor_of_name (by decide)) (Nat.le_of_ble_eq_true rfl) ?_
  intro p e s m below meth c ls F hr hlocks hW hl
  have E : qa_E p m c b_VF_bears 2 s _ "VotedFrames" y := ⟨F, hW.2⟩
  have hC : qa_C y v s s.heap [] := ⟨hW.1, va_S.rf⟩
  have hx := F.1
  have hb := F.2.1
  have hown : s.vm.findClass "VotedFrames" = some m.cls := F.2.2.2.1
  have hts := F.2.2.2.2
  have hn4 : 4 ≤ qa_n y := E.2.1.2.2.1
  have hn7 : qa_n y ≤ 7 := E.2.1.2.2.2.1
  have hl : lv_has ls 2 [(0, .ref (qa_a y 0 0)), (1, .int z)] := hl
  by_cases g1 : qm_isn (qa_n y) z = true
  · obtain ⟨i, hi, rfl⟩ := qm_wi_n (by omega) (by omega) g1
    have hl : lv_has ls 2 [(0, .ref (qa_a y 0 0)), (1, .int (nI i))] := hl
    refine lv_aload_n hx hb d_VF_bears_0 rfl (lv_at hl 0 rfl) ?_
    refine lv_iload_n hx hb d_VF_bears_1 rfl (lv_at hl 1 rfl) ?_
    refine qa_pV (k := 0) (i := 0) (As := [.int (nI i)]) E hC (c_VF_isNode l y v (nI i)) Nat.one_pos rfl rfl k_VF_72 (qa_fitR (by decide) (by decide)) rfl hl.1 rfl (Nat.le_of_ble_eq_true rfl) d_VF_bears_2 ?_
    refine lv_if_eq hx hb d_VF_bears_5 rfl (fun h9 => absurd h9 (qb_nz g1)) (fun _ => ?_)
    refine lv_aload_n hx hb d_VF_bears_8 rfl (lv_at hl 0 rfl) ?_
    refine qa_get (k := 0) (i := 0) (f := 3) (val := .ref (qa_a y 1 0)) E hC Nat.one_pos rfl rfl (by decide) f_VF_31 rfl rfl d_VF_bears_9 ?_
    refine lv_iload_n hx hb d_VF_bears_12 rfl (lv_at hl 1 rfl) ?_
    refine qa_ald (k := 1) (i := 0) (j := i) E hC Nat.one_pos rfl rfl rfl rfl rfl hi d_VF_bears_13 ?_
    refine lv_aload_n hx hb d_VF_bears_14 rfl (lv_at hl 0 rfl) ?_
    refine qa_get (k := 0) (i := 0) (f := 1) (val := .int (nI (qa_m y))) E hC Nat.one_pos rfl rfl (by decide) f_VF_21 rfl rfl d_VF_bears_15 ?_
    refine qa_pV (k := 2) (i := i) (As := [.int (nI (qa_m y))]) E hC (c_ND_bearable l y v i (nI (qa_m y)) hi) hi rfl rfl k_VF_145 (qa_fitR (by decide) (by decide)) rfl hl.1 rfl (Nat.le_of_ble_eq_true rfl) d_VF_bears_18 ?_
    refine lv_goto hx hb d_VF_bears_21 rfl ?_
    exact qa_iret hx hb hr hlocks (by rw [if_pos g1, qm_ix_n (by omega)]) d_VF_bears_25
  · refine lv_aload_n hx hb d_VF_bears_0 rfl (lv_at hl 0 rfl) ?_
    refine lv_iload_n hx hb d_VF_bears_1 rfl (lv_at hl 1 rfl) ?_
    refine qa_pV (k := 0) (i := 0) (As := [.int z]) E hC (c_VF_isNode l y v z) Nat.one_pos rfl rfl k_VF_72 (qa_fitR (by decide) (by decide)) rfl hl.1 rfl (Nat.le_of_ble_eq_true rfl) d_VF_bears_2 ?_
    refine lv_if_eq hx hb d_VF_bears_5 rfl (fun _ => ?_) (fun h9 => absurd (qb_zf (Bool.eq_false_iff.mpr g1)) h9)
    refine lv_iconst (v := 0) hx hb d_VF_bears_24 (by decide) ?_
    exact qa_iret hx hb hr hlocks (by rw [if_neg g1]) d_VF_bears_25

set_option maxHeartbeats 4000000 in
set_option maxRecDepth 100000 in
theorem c_VF_input (l : Launch) (y : qa_L) (v : qa_M) (z z2 : Int32) : qa_Pu l y_VF_input b_VF_input 3 (some .int) 2 [.ref (qa_a y 0 0), .int z, .int z2] (qa_W y v) (if qm_isn (qa_n y) z = true ∧ qm_isn (qa_n y) z2 = true then v 5 (qm_ix z) (qm_ix z2) else 0) := by
  refine qa_ofPu (plainFor_of_name (by decide)) (Nat.le_of_ble_eq_true rfl) ?_
  intro p e s m below meth c ls F hr hlocks hW hl
  have E : qa_E p m c b_VF_input 3 s _ "VotedFrames" y := ⟨F, hW.2⟩
  have hC : qa_C y v s s.heap [] := ⟨hW.1, va_S.rf⟩
  have hx := F.1
  have hb := F.2.1
  have hown : s.vm.findClass "VotedFrames" = some m.cls := F.2.2.2.1
  have hts := F.2.2.2.2
  have hn4 : 4 ≤ qa_n y := E.2.1.2.2.1
  have hn7 : qa_n y ≤ 7 := E.2.1.2.2.2.1
  have hl : lv_has ls 3 [(0, .ref (qa_a y 0 0)), (1, .int z), (2, .int z2)] := hl
  by_cases g1 : qm_isn (qa_n y) z = true
  · obtain ⟨i, hi, rfl⟩ := qm_wi_n (by omega) (by omega) g1
    by_cases g2 : qm_isn (qa_n y) z2 = true
    · obtain ⟨j, hj, rfl⟩ := qm_wi_n (by omega) (by omega) g2
      have hl : lv_has ls 3 [(0, .ref (qa_a y 0 0)), (1, .int (nI i)), (2, .int (nI j))] := hl
      refine lv_aload_n hx hb d_VF_input_0 rfl (lv_at hl 0 rfl) ?_
      refine lv_iload_n hx hb d_VF_input_1 rfl (lv_at hl 1 rfl) ?_
      refine qa_pV (k := 0) (i := 0) (As := [.int (nI i)]) E hC (c_VF_isNode l y v (nI i)) Nat.one_pos rfl rfl k_VF_72 (qa_fitR (by decide) (by decide)) rfl hl.1 rfl (Nat.le_of_ble_eq_true rfl) d_VF_input_2 ?_
      refine lv_if_eq hx hb d_VF_input_5 rfl (fun h9 => absurd h9 (qb_nz g1)) (fun _ => ?_)
      refine lv_aload_n hx hb d_VF_input_8 rfl (lv_at hl 0 rfl) ?_
      refine lv_iload_n hx hb d_VF_input_9 rfl (lv_at hl 2 rfl) ?_
      refine qa_pV (k := 0) (i := 0) (As := [.int (nI j)]) E hC (c_VF_isNode l y v (nI j)) Nat.one_pos rfl rfl k_VF_72 (qa_fitR (by decide) (by decide)) rfl hl.1 rfl (Nat.le_of_ble_eq_true rfl) d_VF_input_10 ?_
      refine lv_if_eq hx hb d_VF_input_13 rfl (fun h9 => absurd h9 (qb_nz g2)) (fun _ => ?_)
      refine lv_aload_n hx hb d_VF_input_16 rfl (lv_at hl 0 rfl) ?_
      refine qa_get (k := 0) (i := 0) (f := 3) (val := .ref (qa_a y 1 0)) E hC Nat.one_pos rfl rfl (by decide) f_VF_31 rfl rfl d_VF_input_17 ?_
      refine lv_iload_n hx hb d_VF_input_20 rfl (lv_at hl 1 rfl) ?_
      refine qa_ald (k := 1) (i := 0) (j := i) E hC Nat.one_pos rfl rfl rfl rfl rfl hi d_VF_input_21 ?_
      refine qa_get (k := 2) (i := i) (f := 3) (val := .ref (qa_a y 5 i)) E hC hi rfl rfl (by decide) f_VF_133 rfl rfl d_VF_input_22 ?_
      refine lv_iload_n hx hb d_VF_input_25 rfl (lv_at hl 2 rfl) ?_
      refine qa_ild (k := 5) (i := i) (j := j) E hC hi rfl rfl rfl hj d_VF_input_26 ?_
      refine lv_goto hx hb d_VF_input_27 rfl ?_
      exact qa_iret hx hb hr hlocks (by rw [if_pos ⟨g1, g2⟩, qm_ix_n (by omega), qm_ix_n (by omega)]) d_VF_input_31
    · have hl : lv_has ls 3 [(0, .ref (qa_a y 0 0)), (1, .int (nI i)), (2, .int z2)] := hl
      refine lv_aload_n hx hb d_VF_input_0 rfl (lv_at hl 0 rfl) ?_
      refine lv_iload_n hx hb d_VF_input_1 rfl (lv_at hl 1 rfl) ?_
      refine qa_pV (k := 0) (i := 0) (As := [.int (nI i)]) E hC (c_VF_isNode l y v (nI i)) Nat.one_pos rfl rfl k_VF_72 (qa_fitR (by decide) (by decide)) rfl hl.1 rfl (Nat.le_of_ble_eq_true rfl) d_VF_input_2 ?_
      refine lv_if_eq hx hb d_VF_input_5 rfl (fun h9 => absurd h9 (qb_nz g1)) (fun _ => ?_)
      refine lv_aload_n hx hb d_VF_input_8 rfl (lv_at hl 0 rfl) ?_
      refine lv_iload_n hx hb d_VF_input_9 rfl (lv_at hl 2 rfl) ?_
      refine qa_pV (k := 0) (i := 0) (As := [.int z2]) E hC (c_VF_isNode l y v z2) Nat.one_pos rfl rfl k_VF_72 (qa_fitR (by decide) (by decide)) rfl hl.1 rfl (Nat.le_of_ble_eq_true rfl) d_VF_input_10 ?_
      refine lv_if_eq hx hb d_VF_input_13 rfl (fun _ => ?_) (fun h9 => absurd (qb_zf (Bool.eq_false_iff.mpr g2)) h9)
      refine lv_iconst (v := 0) hx hb d_VF_input_30 (by decide) ?_
      exact qa_iret hx hb hr hlocks (by rw [if_neg (fun q => g2 q.2)]) d_VF_input_31
  · refine lv_aload_n hx hb d_VF_input_0 rfl (lv_at hl 0 rfl) ?_
    refine lv_iload_n hx hb d_VF_input_1 rfl (lv_at hl 1 rfl) ?_
    refine qa_pV (k := 0) (i := 0) (As := [.int z]) E hC (c_VF_isNode l y v z) Nat.one_pos rfl rfl k_VF_72 (qa_fitR (by decide) (by decide)) rfl hl.1 rfl (Nat.le_of_ble_eq_true rfl) d_VF_input_2 ?_
    refine lv_if_eq hx hb d_VF_input_5 rfl (fun _ => ?_) (fun h9 => absurd (qb_zf (Bool.eq_false_iff.mpr g1)) h9)
    refine lv_iconst (v := 0) hx hb d_VF_input_30 (by decide) ?_
    exact qa_iret hx hb hr hlocks (by rw [if_neg (fun q => g1 q.1)]) d_VF_input_31

set_option maxHeartbeats 4000000 in
set_option maxRecDepth 100000 in
theorem c_VF_charge (l : Launch) (y : qa_L) (v : qa_M) (z z2 : Int32) : qa_Pu l y_VF_charge b_VF_charge 3 (some .int) 2 [.ref (qa_a y 0 0), .int z, .int z2] (qa_W y v) (if qm_isn (qa_n y) z = true ∧ qm_isn (qa_n y) z2 = true then v 6 (qm_ix z) (qm_ix z2) else 0) := by
  refine qa_ofPu (plainFor_of_name (by decide)) (Nat.le_of_ble_eq_true rfl) ?_
  intro p e s m below meth c ls F hr hlocks hW hl
  have E : qa_E p m c b_VF_charge 3 s _ "VotedFrames" y := ⟨F, hW.2⟩
  have hC : qa_C y v s s.heap [] := ⟨hW.1, va_S.rf⟩
  have hx := F.1
  have hb := F.2.1
  have hown : s.vm.findClass "VotedFrames" = some m.cls := F.2.2.2.1
  have hts := F.2.2.2.2
  have hn4 : 4 ≤ qa_n y := E.2.1.2.2.1
  have hn7 : qa_n y ≤ 7 := E.2.1.2.2.2.1
  have hl : lv_has ls 3 [(0, .ref (qa_a y 0 0)), (1, .int z), (2, .int z2)] := hl
  by_cases g1 : qm_isn (qa_n y) z = true
  · obtain ⟨i, hi, rfl⟩ := qm_wi_n (by omega) (by omega) g1
    by_cases g2 : qm_isn (qa_n y) z2 = true
    · obtain ⟨j, hj, rfl⟩ := qm_wi_n (by omega) (by omega) g2
      have hl : lv_has ls 3 [(0, .ref (qa_a y 0 0)), (1, .int (nI i)), (2, .int (nI j))] := hl
      refine lv_aload_n hx hb d_VF_charge_0 rfl (lv_at hl 0 rfl) ?_
      refine lv_iload_n hx hb d_VF_charge_1 rfl (lv_at hl 1 rfl) ?_
      refine qa_pV (k := 0) (i := 0) (As := [.int (nI i)]) E hC (c_VF_isNode l y v (nI i)) Nat.one_pos rfl rfl k_VF_72 (qa_fitR (by decide) (by decide)) rfl hl.1 rfl (Nat.le_of_ble_eq_true rfl) d_VF_charge_2 ?_
      refine lv_if_eq hx hb d_VF_charge_5 rfl (fun h9 => absurd h9 (qb_nz g1)) (fun _ => ?_)
      refine lv_aload_n hx hb d_VF_charge_8 rfl (lv_at hl 0 rfl) ?_
      refine lv_iload_n hx hb d_VF_charge_9 rfl (lv_at hl 2 rfl) ?_
      refine qa_pV (k := 0) (i := 0) (As := [.int (nI j)]) E hC (c_VF_isNode l y v (nI j)) Nat.one_pos rfl rfl k_VF_72 (qa_fitR (by decide) (by decide)) rfl hl.1 rfl (Nat.le_of_ble_eq_true rfl) d_VF_charge_10 ?_
      refine lv_if_eq hx hb d_VF_charge_13 rfl (fun h9 => absurd h9 (qb_nz g2)) (fun _ => ?_)
      refine lv_aload_n hx hb d_VF_charge_16 rfl (lv_at hl 0 rfl) ?_
      refine qa_get (k := 0) (i := 0) (f := 3) (val := .ref (qa_a y 1 0)) E hC Nat.one_pos rfl rfl (by decide) f_VF_31 rfl rfl d_VF_charge_17 ?_
      refine lv_iload_n hx hb d_VF_charge_20 rfl (lv_at hl 1 rfl) ?_
      refine qa_ald (k := 1) (i := 0) (j := i) E hC Nat.one_pos rfl rfl rfl rfl rfl hi d_VF_charge_21 ?_
      refine qa_get (k := 2) (i := i) (f := 4) (val := .ref (qa_a y 6 i)) E hC hi rfl rfl (by decide) f_VF_136 rfl rfl d_VF_charge_22 ?_
      refine lv_iload_n hx hb d_VF_charge_25 rfl (lv_at hl 2 rfl) ?_
      refine qa_ild (k := 6) (i := i) (j := j) E hC hi rfl rfl rfl hj d_VF_charge_26 ?_
      refine lv_goto hx hb d_VF_charge_27 rfl ?_
      exact qa_iret hx hb hr hlocks (by rw [if_pos ⟨g1, g2⟩, qm_ix_n (by omega), qm_ix_n (by omega)]) d_VF_charge_31
    · have hl : lv_has ls 3 [(0, .ref (qa_a y 0 0)), (1, .int (nI i)), (2, .int z2)] := hl
      refine lv_aload_n hx hb d_VF_charge_0 rfl (lv_at hl 0 rfl) ?_
      refine lv_iload_n hx hb d_VF_charge_1 rfl (lv_at hl 1 rfl) ?_
      refine qa_pV (k := 0) (i := 0) (As := [.int (nI i)]) E hC (c_VF_isNode l y v (nI i)) Nat.one_pos rfl rfl k_VF_72 (qa_fitR (by decide) (by decide)) rfl hl.1 rfl (Nat.le_of_ble_eq_true rfl) d_VF_charge_2 ?_
      refine lv_if_eq hx hb d_VF_charge_5 rfl (fun h9 => absurd h9 (qb_nz g1)) (fun _ => ?_)
      refine lv_aload_n hx hb d_VF_charge_8 rfl (lv_at hl 0 rfl) ?_
      refine lv_iload_n hx hb d_VF_charge_9 rfl (lv_at hl 2 rfl) ?_
      refine qa_pV (k := 0) (i := 0) (As := [.int z2]) E hC (c_VF_isNode l y v z2) Nat.one_pos rfl rfl k_VF_72 (qa_fitR (by decide) (by decide)) rfl hl.1 rfl (Nat.le_of_ble_eq_true rfl) d_VF_charge_10 ?_
      refine lv_if_eq hx hb d_VF_charge_13 rfl (fun _ => ?_) (fun h9 => absurd (qb_zf (Bool.eq_false_iff.mpr g2)) h9)
      refine lv_iconst (v := 0) hx hb d_VF_charge_30 (by decide) ?_
      exact qa_iret hx hb hr hlocks (by rw [if_neg (fun q => g2 q.2)]) d_VF_charge_31
  · refine lv_aload_n hx hb d_VF_charge_0 rfl (lv_at hl 0 rfl) ?_
    refine lv_iload_n hx hb d_VF_charge_1 rfl (lv_at hl 1 rfl) ?_
    refine qa_pV (k := 0) (i := 0) (As := [.int z]) E hC (c_VF_isNode l y v z) Nat.one_pos rfl rfl k_VF_72 (qa_fitR (by decide) (by decide)) rfl hl.1 rfl (Nat.le_of_ble_eq_true rfl) d_VF_charge_2 ?_
    refine lv_if_eq hx hb d_VF_charge_5 rfl (fun _ => ?_) (fun h9 => absurd (qb_zf (Bool.eq_false_iff.mpr g1)) h9)
    refine lv_iconst (v := 0) hx hb d_VF_charge_30 (by decide) ?_
    exact qa_iret hx hb hr hlocks (by rw [if_neg (fun q => g1 q.1)]) d_VF_charge_31

set_option maxHeartbeats 4000000 in
set_option maxRecDepth 100000 in
theorem c_VF_word (l : Launch) (y : qa_L) (v : qa_M) (z z2 : Int32) : qa_Pu l y_VF_word b_VF_word 3 (some .int) 2 [.ref (qa_a y 0 0), .int z, .int z2] (qa_W y v) (if qm_isn (qa_n y) z = true ∧ qm_wi z2 0 3 = true then v 7 (qm_ix z) (qm_ix z2) else 0) := by
  refine qa_ofPu (plainFor_of_name (by decide)) (Nat.le_of_ble_eq_true rfl) ?_
  intro p e s m below meth c ls F hr hlocks hW hl
  have E : qa_E p m c b_VF_word 3 s _ "VotedFrames" y := ⟨F, hW.2⟩
  have hC : qa_C y v s s.heap [] := ⟨hW.1, va_S.rf⟩
  have hx := F.1
  have hb := F.2.1
  have hown : s.vm.findClass "VotedFrames" = some m.cls := F.2.2.2.1
  have hts := F.2.2.2.2
  have hn4 : 4 ≤ qa_n y := E.2.1.2.2.1
  have hn7 : qa_n y ≤ 7 := E.2.1.2.2.2.1
  have hl : lv_has ls 3 [(0, .ref (qa_a y 0 0)), (1, .int z), (2, .int z2)] := hl
  by_cases g1 : qm_isn (qa_n y) z = true
  · obtain ⟨i, hi, rfl⟩ := qm_wi_n (by omega) (by omega) g1
    by_cases g2 : qm_wi z2 0 3 = true
    · obtain ⟨t, ht, rfl⟩ := qm_wi_4 g2
      have hl : lv_has ls 3 [(0, .ref (qa_a y 0 0)), (1, .int (nI i)), (2, .int (nI t))] := hl
      refine lv_aload_n hx hb d_VF_word_0 rfl (lv_at hl 0 rfl) ?_
      refine lv_iload_n hx hb d_VF_word_1 rfl (lv_at hl 1 rfl) ?_
      refine qa_pV (k := 0) (i := 0) (As := [.int (nI i)]) E hC (c_VF_isNode l y v (nI i)) Nat.one_pos rfl rfl k_VF_72 (qa_fitR (by decide) (by decide)) rfl hl.1 rfl (Nat.le_of_ble_eq_true rfl) d_VF_word_2 ?_
      refine lv_if_eq hx hb d_VF_word_5 rfl (fun h9 => absurd h9 (qb_nz g1)) (fun _ => ?_)
      refine lv_iload_n hx hb d_VF_word_8 rfl (lv_at hl 2 rfl) ?_
      refine qa_pT (As := [.int (nI t)]) F (c_VF_isTask l (nI t)) k_VF_103 (qa_fitR (by decide) (by decide)) rfl hl.1 rfl (Nat.le_of_ble_eq_true rfl) d_VF_word_9 ?_
      refine lv_if_eq hx hb d_VF_word_12 rfl (fun h9 => absurd h9 (qb_nz g2)) (fun _ => ?_)
      refine lv_aload_n hx hb d_VF_word_15 rfl (lv_at hl 0 rfl) ?_
      refine qa_get (k := 0) (i := 0) (f := 3) (val := .ref (qa_a y 1 0)) E hC Nat.one_pos rfl rfl (by decide) f_VF_31 rfl rfl d_VF_word_16 ?_
      refine lv_iload_n hx hb d_VF_word_19 rfl (lv_at hl 1 rfl) ?_
      refine qa_ald (k := 1) (i := 0) (j := i) E hC Nat.one_pos rfl rfl rfl rfl rfl hi d_VF_word_20 ?_
      refine qa_get (k := 2) (i := i) (f := 5) (val := .ref (qa_a y 7 i)) E hC hi rfl rfl (by decide) f_VF_139 rfl rfl d_VF_word_21 ?_
      refine lv_iload_n hx hb d_VF_word_24 rfl (lv_at hl 2 rfl) ?_
      refine qa_ild (k := 7) (i := i) (j := t) E hC hi rfl rfl rfl ht d_VF_word_25 ?_
      refine lv_goto hx hb d_VF_word_26 rfl ?_
      exact qa_iret hx hb hr hlocks (by rw [if_pos ⟨g1, g2⟩, qm_ix_n (by omega), qm_ix_n (by omega)]) d_VF_word_30
    · have hl : lv_has ls 3 [(0, .ref (qa_a y 0 0)), (1, .int (nI i)), (2, .int z2)] := hl
      refine lv_aload_n hx hb d_VF_word_0 rfl (lv_at hl 0 rfl) ?_
      refine lv_iload_n hx hb d_VF_word_1 rfl (lv_at hl 1 rfl) ?_
      refine qa_pV (k := 0) (i := 0) (As := [.int (nI i)]) E hC (c_VF_isNode l y v (nI i)) Nat.one_pos rfl rfl k_VF_72 (qa_fitR (by decide) (by decide)) rfl hl.1 rfl (Nat.le_of_ble_eq_true rfl) d_VF_word_2 ?_
      refine lv_if_eq hx hb d_VF_word_5 rfl (fun h9 => absurd h9 (qb_nz g1)) (fun _ => ?_)
      refine lv_iload_n hx hb d_VF_word_8 rfl (lv_at hl 2 rfl) ?_
      refine qa_pT (As := [.int z2]) F (c_VF_isTask l z2) k_VF_103 (qa_fitR (by decide) (by decide)) rfl hl.1 rfl (Nat.le_of_ble_eq_true rfl) d_VF_word_9 ?_
      refine lv_if_eq hx hb d_VF_word_12 rfl (fun _ => ?_) (fun h9 => absurd (qb_zf (Bool.eq_false_iff.mpr g2)) h9)
      refine lv_iconst (v := 0) hx hb d_VF_word_29 (by decide) ?_
      exact qa_iret hx hb hr hlocks (by rw [if_neg (fun q => g2 q.2)]) d_VF_word_30
  · refine lv_aload_n hx hb d_VF_word_0 rfl (lv_at hl 0 rfl) ?_
    refine lv_iload_n hx hb d_VF_word_1 rfl (lv_at hl 1 rfl) ?_
    refine qa_pV (k := 0) (i := 0) (As := [.int z]) E hC (c_VF_isNode l y v z) Nat.one_pos rfl rfl k_VF_72 (qa_fitR (by decide) (by decide)) rfl hl.1 rfl (Nat.le_of_ble_eq_true rfl) d_VF_word_2 ?_
    refine lv_if_eq hx hb d_VF_word_5 rfl (fun _ => ?_) (fun h9 => absurd (qb_zf (Bool.eq_false_iff.mpr g1)) h9)
    refine lv_iconst (v := 0) hx hb d_VF_word_29 (by decide) ?_
    exact qa_iret hx hb hr hlocks (by rw [if_neg (fun q => g1 q.1)]) d_VF_word_30

set_option maxHeartbeats 4000000 in
set_option maxRecDepth 100000 in
theorem c_VF_solo (l : Launch) (y : qa_L) (v : qa_M) (z : Int32) : qa_Pu l y_VF_solo b_VF_solo 2 (some .int) 2 [.ref (qa_a y 0 0), .int z] (qa_W y v) (if qm_wi z 0 3 = true then v 18 0 (qm_ix z) else 0) := by
  refine qa_ofPu (plainFor_of_name (by decide)) (Nat.le_of_ble_eq_true rfl) ?_
  intro p e s m below meth c ls F hr hlocks hW hl
  have E : qa_E p m c b_VF_solo 2 s _ "VotedFrames" y := ⟨F, hW.2⟩
  have hC : qa_C y v s s.heap [] := ⟨hW.1, va_S.rf⟩
  have hx := F.1
  have hb := F.2.1
  have hown : s.vm.findClass "VotedFrames" = some m.cls := F.2.2.2.1
  have hts := F.2.2.2.2
  have hn4 : 4 ≤ qa_n y := E.2.1.2.2.1
  have hn7 : qa_n y ≤ 7 := E.2.1.2.2.2.1
  have hl : lv_has ls 2 [(0, .ref (qa_a y 0 0)), (1, .int z)] := hl
  by_cases g1 : qm_wi z 0 3 = true
  · obtain ⟨t, ht, rfl⟩ := qm_wi_4 g1
    have hl : lv_has ls 2 [(0, .ref (qa_a y 0 0)), (1, .int (nI t))] := hl
    refine lv_iload_n hx hb d_VF_solo_0 rfl (lv_at hl 1 rfl) ?_
    refine qa_pT (As := [.int (nI t)]) F (c_VF_isTask l (nI t)) k_VF_103 (qa_fitR (by decide) (by decide)) rfl hl.1 rfl (Nat.le_of_ble_eq_true rfl) d_VF_solo_1 ?_
    refine lv_if_eq hx hb d_VF_solo_4 rfl (fun h9 => absurd h9 (qb_nz g1)) (fun _ => ?_)
    refine lv_aload_n hx hb d_VF_solo_7 rfl (lv_at hl 0 rfl) ?_
    refine qa_get (k := 0) (i := 0) (f := 7) (val := .ref (qa_a y 18 0)) E hC Nat.one_pos rfl rfl (by decide) f_VF_59 rfl rfl d_VF_solo_8 ?_
    refine lv_iload_n hx hb d_VF_solo_11 rfl (lv_at hl 1 rfl) ?_
    refine qa_ild (k := 18) (i := 0) (j := t) E hC Nat.one_pos rfl rfl rfl ht d_VF_solo_12 ?_
    refine lv_goto hx hb d_VF_solo_13 rfl ?_
    exact qa_iret hx hb hr hlocks (by rw [if_pos g1, qm_ix_n (by omega)]) d_VF_solo_17
  · refine lv_iload_n hx hb d_VF_solo_0 rfl (lv_at hl 1 rfl) ?_
    refine qa_pT (As := [.int z]) F (c_VF_isTask l z) k_VF_103 (qa_fitR (by decide) (by decide)) rfl hl.1 rfl (Nat.le_of_ble_eq_true rfl) d_VF_solo_1 ?_
    refine lv_if_eq hx hb d_VF_solo_4 rfl (fun _ => ?_) (fun h9 => absurd (qb_zf (Bool.eq_false_iff.mpr g1)) h9)
    refine lv_iconst (v := 0) hx hb d_VF_solo_16 (by decide) ?_
    exact qa_iret hx hb hr hlocks (by rw [if_neg g1]) d_VF_solo_17
