set_option maxHeartbeats 4000000 in
set_option maxRecDepth 100000 in
theorem c_VF_leastCorrect (l : Launch) (y : qa_L) (v : qa_M) : qa_Pu l y_VF_leastCorrect b_VF_leastCorrect 2 (some .int) 0 [.ref (qa_a y 0 0)] (qa_W y v) (qm_lcr (qa_n y) v) := by
  refine qa_ofPu (plainFor_of_name (by decide)) (Nat.le_of_ble_eq_true rfl) ?_
  intro p e s m below meth c ls F hr hlocks hW hl
  have E : qa_E p m c b_VF_leastCorrect 2 s _ "VotedFrames" y := ⟨F, hW.2⟩
  have hC : qa_C y v s s.heap [] := ⟨hW.1, va_S.rf⟩
  have hx := F.1
  have hb := F.2.1
  have hown : s.vm.findClass "VotedFrames" = some m.cls := F.2.2.2.1
  have hts := F.2.2.2.2
  have hn4 : 4 ≤ qa_n y := E.2.1.2.2.1
  have hn7 : qa_n y ≤ 7 := E.2.1.2.2.2.1
  have hl : lv_has ls 2 [(0, .ref (qa_a y 0 0))] := hl
  have loop : ∀ (d k : Nat) (ls : Array Slot), k + d = qa_n y → (∀ a, a < k → ¬ v 2 a 9 = 0) → lv_has ls 2 [(1, .int (nI k)), (0, .ref (qa_a y 0 0))] → W p l e (qa_R 0) s m [.ref (qa_a y 0 0)].toArray below meth c s.heap [] 0 0 (MQ below (QcRead (qm_lcr (qa_n y) v)) [.ref (qa_a y 0 0)].toArray s 0 0 (fun _ => False)) (F0 m 2 ls []) := by
    intro d
    induction d with
    | zero =>
      intro k ls hkd hI hl
      obtain rfl : qa_n y = k := by omega
      refine lv_iload_n hx hb d_VF_leastCorrect_2 rfl (lv_at hl 0 rfl) ?_
      refine lv_aload_n hx hb d_VF_leastCorrect_3 rfl (lv_at hl 1 rfl) ?_
      refine qa_get (k := 0) (i := 0) (f := 0) (val := .int (nI (qa_n y))) E hC Nat.one_pos rfl rfl (by decide) f_VF_13 rfl rfl d_VF_leastCorrect_4 ?_
      refine lv_icmp_ge hx hb d_VF_leastCorrect_7 rfl (fun _ => ?_) (fun h9 => absurd (nI_le (Nat.le_refl _) (by omega)) h9)
      refine lv_iconst (v := -1) hx hb d_VF_leastCorrect_30 (by decide) ?_
      exact qa_iret hx hb hr hlocks ((qm_lcr_no hI).symm) d_VF_leastCorrect_31
    | succ d ih =>
      intro k ls hkd hI hl
      have hk : k < qa_n y := by omega
      refine lv_iload_n hx hb d_VF_leastCorrect_2 rfl (lv_at hl 0 rfl) ?_
      refine lv_aload_n hx hb d_VF_leastCorrect_3 rfl (lv_at hl 1 rfl) ?_
      refine qa_get (k := 0) (i := 0) (f := 0) (val := .int (nI (qa_n y))) E hC Nat.one_pos rfl rfl (by decide) f_VF_13 rfl rfl d_VF_leastCorrect_4 ?_
      refine lv_icmp_ge hx hb d_VF_leastCorrect_7 rfl (fun h9 => absurd h9 (nI_ge hk (by omega))) (fun _ => ?_)
      refine lv_aload_n hx hb d_VF_leastCorrect_10 rfl (lv_at hl 1 rfl) ?_
      refine qa_get (k := 0) (i := 0) (f := 3) (val := .ref (qa_a y 1 0)) E hC Nat.one_pos rfl rfl (by decide) f_VF_31 rfl rfl d_VF_leastCorrect_11 ?_
      refine lv_iload_n hx hb d_VF_leastCorrect_14 rfl (lv_at hl 0 rfl) ?_
      refine qa_ald (k := 1) (i := 0) (j := k) E hC Nat.one_pos rfl rfl rfl rfl rfl hk d_VF_leastCorrect_15 ?_
      refine qa_get (k := 2) (i := k) (f := 9) (val := .int (v 2 k 9)) E hC hk rfl rfl (by decide) f_VF_97 rfl rfl d_VF_leastCorrect_16 ?_
      refine lv_if_ne hx hb d_VF_leastCorrect_19 rfl (fun h19 => ?_) (fun h19 => ?_)
      · refine lv_iinc (v := nI (k + 1)) hx hb d_VF_leastCorrect_24 hl (k := 0) rfl (nI_1 k) (by decide) rfl (fun ls hl => ?_)
        have hl : lv_has ls 2 [(1, .int (nI (k + 1))), (0, .ref (qa_a y 0 0))] := hl
        refine lv_goto hx hb d_VF_leastCorrect_27 rfl ?_
        exact ih (k + 1) ls (by omega) (lt_s hI h19) (lv_sub hl [0, 1] rfl)
      · refine lv_iload_n hx hb d_VF_leastCorrect_22 rfl (lv_at hl 0 rfl) ?_
        exact qa_iret hx hb hr hlocks ((qm_lcr_at hk hI h19).symm) d_VF_leastCorrect_23
  refine lv_iconst (v := 0) hx hb d_VF_leastCorrect_0 (by decide) ?_
  refine lv_istore_n hx hb d_VF_leastCorrect_1 rfl hl (by decide) rfl (fun ls hl => ?_)
  have hl : lv_has ls 2 [(1, .int 0), (0, .ref (qa_a y 0 0))] := hl
  exact loop (qa_n y) 0 ls (by omega) lt_0 (lv_sub hl [0, 1] rfl)

set_option maxHeartbeats 4000000 in
set_option maxRecDepth 100000 in
theorem c_VF_spread (l : Launch) (y : qa_L) (v : qa_M) : qa_Pu l y_VF_spread b_VF_spread 5 (some .int) 1 [.ref (qa_a y 0 0)] (qa_W y v) (qm_spd (qa_n y) v) := by
  refine qa_ofPu (plainFor_of_name (by decide)) (Nat.le_of_ble_eq_true rfl) ?_
  intro p e s m below meth c ls F hr hlocks hW hl
  have E : qa_E p m c b_VF_spread 5 s _ "VotedFrames" y := ⟨F, hW.2⟩
  have hC : qa_C y v s s.heap [] := ⟨hW.1, va_S.rf⟩
  have hx := F.1
  have hb := F.2.1
  have hown : s.vm.findClass "VotedFrames" = some m.cls := F.2.2.2.1
  have hts := F.2.2.2.2
  have hn4 : 4 ≤ qa_n y := E.2.1.2.2.1
  have hn7 : qa_n y ≤ 7 := E.2.1.2.2.2.1
  have hl : lv_has ls 5 [(0, .ref (qa_a y 0 0))] := hl
  rcases qm_lcr_or (qa_n y) v with ⟨hno, e1⟩ | ⟨f, hf, hf0, hbef, e1⟩
  · have e2 : qm_lcr (qa_n y) v < 0 := by rw [e1]; decide
    refine lv_aload_n hx hb d_VF_spread_0 rfl (lv_at hl 0 rfl) ?_
    refine qa_pV (k := 0) (i := 0) (As := []) E hC (c_VF_leastCorrect l y v) Nat.one_pos rfl rfl k_VF_152 (qa_fitR (by decide) (by decide)) rfl hl.1 rfl (Nat.le_of_ble_eq_true rfl) d_VF_spread_1 ?_
    refine lv_istore_n hx hb d_VF_spread_4 rfl hl (by decide) rfl (fun ls hl => ?_)
    have hl : lv_has ls 5 [(1, .int (qm_lcr (qa_n y) v)), (0, .ref (qa_a y 0 0))] := hl
    refine lv_iload_n hx hb d_VF_spread_5 rfl (lv_at hl 0 rfl) ?_
    refine lv_if_ge hx hb d_VF_spread_6 rfl (fun h9 => absurd h9 (qm_nle e2)) (fun _ => ?_)
    refine lv_iconst (v := 0) hx hb d_VF_spread_9 (by decide) ?_
    exact qa_iret hx hb hr hlocks ((qm_spd_no e1).symm) d_VF_spread_10
  · have e2 : 0 ≤ qm_lcr (qa_n y) v := by rw [e1]; exact nI_pos' (by omega)
    have loop : ∀ (d k : Nat) (ls : Array Slot), k + d = qa_n y → (f < k) → lv_has ls 5 [(4, .int (nI k)), (2, .int (qm_spl v f (k - f - 1))), (3, .int (qm_sph v f (k - f - 1))), (1, .int (nI f)), (0, .ref (qa_a y 0 0))] → W p l e (qa_R 1) s m [.ref (qa_a y 0 0)].toArray below meth c s.heap [] 0 0 (MQ below (QcRead (qm_spd (qa_n y) v)) [.ref (qa_a y 0 0)].toArray s 0 0 (fun _ => False)) (F0 m 28 ls []) := by
      intro d
      induction d with
      | zero =>
        intro k ls hkd hI hl
        obtain rfl : qa_n y = k := by omega
        refine lv_iload hx hb d_VF_spread_28 (lv_at hl 0 rfl) ?_
        refine lv_aload_n hx hb d_VF_spread_30 rfl (lv_at hl 4 rfl) ?_
        refine qa_get (k := 0) (i := 0) (f := 0) (val := .int (nI (qa_n y))) E hC Nat.one_pos rfl rfl (by decide) f_VF_13 rfl rfl d_VF_spread_31 ?_
        refine lv_icmp_ge hx hb d_VF_spread_34 rfl (fun _ => ?_) (fun h9 => absurd (nI_le (Nat.le_refl _) (by omega)) h9)
        refine lv_iload_n hx hb d_VF_spread_86 rfl (lv_at hl 2 rfl) ?_
        refine lv_iload_n hx hb d_VF_spread_87 rfl (lv_at hl 1 rfl) ?_
        refine lv_isub hx hb d_VF_spread_88 ?_
        exact qa_iret hx hb hr hlocks ((qm_spd_at hf e1).symm) d_VF_spread_89
      | succ d ih =>
        intro k ls hkd hI hl
        have hk : k < qa_n y := by omega
        refine lv_iload hx hb d_VF_spread_28 (lv_at hl 0 rfl) ?_
        refine lv_aload_n hx hb d_VF_spread_30 rfl (lv_at hl 4 rfl) ?_
        refine qa_get (k := 0) (i := 0) (f := 0) (val := .int (nI (qa_n y))) E hC Nat.one_pos rfl rfl (by decide) f_VF_13 rfl rfl d_VF_spread_31 ?_
        refine lv_icmp_ge hx hb d_VF_spread_34 rfl (fun h9 => absurd h9 (nI_ge hk (by omega))) (fun _ => ?_)
        refine lv_aload_n hx hb d_VF_spread_37 rfl (lv_at hl 4 rfl) ?_
        refine qa_get (k := 0) (i := 0) (f := 3) (val := .ref (qa_a y 1 0)) E hC Nat.one_pos rfl rfl (by decide) f_VF_31 rfl rfl d_VF_spread_38 ?_
        refine lv_iload hx hb d_VF_spread_41 (lv_at hl 0 rfl) ?_
        refine qa_ald (k := 1) (i := 0) (j := k) E hC Nat.one_pos rfl rfl rfl rfl rfl hk d_VF_spread_43 ?_
        refine qa_get (k := 2) (i := k) (f := 9) (val := .int (v 2 k 9)) E hC hk rfl rfl (by decide) f_VF_97 rfl rfl d_VF_spread_44 ?_
        refine lv_if_ne hx hb d_VF_spread_47 rfl (fun h47 => ?_) (fun h47 => ?_)
        · refine lv_iinc (v := nI (k + 1)) hx hb d_VF_spread_80 hl (k := 0) rfl (nI_1 k) (by decide) rfl (fun ls hl => ?_)
          have hl : lv_has ls 5 [(4, .int (nI (k + 1))), (2, .int (qm_spl v f (k - f - 1))), (3, .int (qm_sph v f (k - f - 1))), (1, .int (nI f)), (0, .ref (qa_a y 0 0))] := hl
          refine lv_goto hx hb d_VF_spread_83 rfl ?_
          have e9 : k + 1 - f - 1 = (k - f - 1) + 1 := by omega
          have e8 : f + 1 + (k - f - 1) = k := by omega
          have e5 : qm_spl v f (k + 1 - f - 1) = qm_spl v f (k - f - 1) := by rw [e9, qm_spl, e8, if_neg h47]
          have e6 : qm_sph v f (k + 1 - f - 1) = qm_sph v f (k - f - 1) := by rw [e9, qm_sph, e8, if_neg h47]
          refine ih (k + 1) ls (by omega) (by omega) ?_
          rw [e5, e6]
          exact lv_sub hl [0, 1, 2, 3, 4] rfl
        · refine lv_iload_n hx hb d_VF_spread_50 rfl (lv_at hl 1 rfl) ?_
          refine lv_aload_n hx hb d_VF_spread_51 rfl (lv_at hl 4 rfl) ?_
          refine qa_get (k := 0) (i := 0) (f := 3) (val := .ref (qa_a y 1 0)) E hC Nat.one_pos rfl rfl (by decide) f_VF_31 rfl rfl d_VF_spread_52 ?_
          refine lv_iload hx hb d_VF_spread_55 (lv_at hl 0 rfl) ?_
          refine qa_ald (k := 1) (i := 0) (j := k) E hC Nat.one_pos rfl rfl rfl rfl rfl hk d_VF_spread_57 ?_
          refine qa_get (k := 2) (i := k) (f := 6) (val := .int (v 2 k 6)) E hC hk rfl rfl (by decide) f_VF_80 rfl rfl d_VF_spread_58 ?_
          refine qa_pT (As := [.int (qm_spl v f (k - f - 1)), .int (v 2 k 6)]) F (c_JM_min l (qm_spl v f (k - f - 1)) (v 2 k 6)) k_VF_155 (qa_fitR (by decide) (by decide)) rfl hl.1 rfl (Nat.le_of_ble_eq_true rfl) d_VF_spread_61 ?_
          refine lv_istore_n hx hb d_VF_spread_64 rfl hl (by decide) rfl (fun ls hl => ?_)
          have hl : lv_has ls 5 [(2, .int (qm_min (qm_spl v f (k - f - 1)) (v 2 k 6))), (4, .int (nI k)), (3, .int (qm_sph v f (k - f - 1))), (1, .int (nI f)), (0, .ref (qa_a y 0 0))] := hl
          refine lv_iload_n hx hb d_VF_spread_65 rfl (lv_at hl 2 rfl) ?_
          refine lv_aload_n hx hb d_VF_spread_66 rfl (lv_at hl 4 rfl) ?_
          refine qa_get (k := 0) (i := 0) (f := 3) (val := .ref (qa_a y 1 0)) E hC Nat.one_pos rfl rfl (by decide) f_VF_31 rfl rfl d_VF_spread_67 ?_
          refine lv_iload hx hb d_VF_spread_70 (lv_at hl 1 rfl) ?_
          refine qa_ald (k := 1) (i := 0) (j := k) E hC Nat.one_pos rfl rfl rfl rfl rfl hk d_VF_spread_72 ?_
          refine qa_get (k := 2) (i := k) (f := 6) (val := .int (v 2 k 6)) E hC hk rfl rfl (by decide) f_VF_80 rfl rfl d_VF_spread_73 ?_
          refine qa_pT (As := [.int (qm_sph v f (k - f - 1)), .int (v 2 k 6)]) F (c_JM_max l (qm_sph v f (k - f - 1)) (v 2 k 6)) k_VF_161 (qa_fitR (by decide) (by decide)) rfl hl.1 rfl (Nat.le_of_ble_eq_true rfl) d_VF_spread_76 ?_
          refine lv_istore_n hx hb d_VF_spread_79 rfl hl (by decide) rfl (fun ls hl => ?_)
          have hl : lv_has ls 5 [(3, .int (qm_max (qm_sph v f (k - f - 1)) (v 2 k 6))), (2, .int (qm_min (qm_spl v f (k - f - 1)) (v 2 k 6))), (4, .int (nI k)), (1, .int (nI f)), (0, .ref (qa_a y 0 0))] := hl
          refine lv_iinc (v := nI (k + 1)) hx hb d_VF_spread_80 hl (k := 2) rfl (nI_1 k) (by decide) rfl (fun ls hl => ?_)
          have hl : lv_has ls 5 [(4, .int (nI (k + 1))), (3, .int (qm_max (qm_sph v f (k - f - 1)) (v 2 k 6))), (2, .int (qm_min (qm_spl v f (k - f - 1)) (v 2 k 6))), (1, .int (nI f)), (0, .ref (qa_a y 0 0))] := hl
          refine lv_goto hx hb d_VF_spread_83 rfl ?_
          have e9 : k + 1 - f - 1 = (k - f - 1) + 1 := by omega
          have e8 : f + 1 + (k - f - 1) = k := by omega
          have e5 : qm_spl v f (k + 1 - f - 1) = qm_min (qm_spl v f (k - f - 1)) (v 2 k 6) := by rw [e9, qm_spl, e8, if_pos h47]
          have e6 : qm_sph v f (k + 1 - f - 1) = qm_max (qm_sph v f (k - f - 1)) (v 2 k 6) := by rw [e9, qm_sph, e8, if_pos h47]
          refine ih (k + 1) ls (by omega) (by omega) ?_
          rw [e5, e6]
          exact lv_sub hl [0, 2, 1, 3, 4] rfl
    refine lv_aload_n hx hb d_VF_spread_0 rfl (lv_at hl 0 rfl) ?_
    refine qa_pV (k := 0) (i := 0) (As := []) E hC (c_VF_leastCorrect l y v) Nat.one_pos rfl rfl k_VF_152 (qa_fitR (by decide) (by decide)) rfl hl.1 rfl (Nat.le_of_ble_eq_true rfl) d_VF_spread_1 ?_
    refine lv_istore_n hx hb d_VF_spread_4 rfl hl (by decide) rfl (fun ls hl => ?_)
    have hl : lv_has ls 5 [(1, .int (qm_lcr (qa_n y) v)), (0, .ref (qa_a y 0 0))] := hl
    refine lv_iload_n hx hb d_VF_spread_5 rfl (lv_at hl 0 rfl) ?_
    refine lv_if_ge hx hb d_VF_spread_6 rfl (fun _ => ?_) (fun h9 => absurd e2 h9)
    have hl : lv_has ls 5 [(1, .int (nI f)), (0, .ref (qa_a y 0 0))] := by rw [e1] at hl; exact hl
    refine lv_aload_n hx hb d_VF_spread_11 rfl (lv_at hl 1 rfl) ?_
    refine qa_get (k := 0) (i := 0) (f := 3) (val := .ref (qa_a y 1 0)) E hC Nat.one_pos rfl rfl (by decide) f_VF_31 rfl rfl d_VF_spread_12 ?_
    refine lv_iload_n hx hb d_VF_spread_15 rfl (lv_at hl 0 rfl) ?_
    refine qa_ald (k := 1) (i := 0) (j := f) E hC Nat.one_pos rfl rfl rfl rfl rfl hf d_VF_spread_16 ?_
    refine qa_get (k := 2) (i := f) (f := 6) (val := .int (v 2 f 6)) E hC hf rfl rfl (by decide) f_VF_80 rfl rfl d_VF_spread_17 ?_
    refine lv_istore_n hx hb d_VF_spread_20 rfl hl (by decide) rfl (fun ls hl => ?_)
    have hl : lv_has ls 5 [(2, .int (v 2 f 6)), (1, .int (nI f)), (0, .ref (qa_a y 0 0))] := hl
    refine lv_iload_n hx hb d_VF_spread_21 rfl (lv_at hl 0 rfl) ?_
    refine lv_istore_n hx hb d_VF_spread_22 rfl hl (by decide) rfl (fun ls hl => ?_)
    have hl : lv_has ls 5 [(3, .int (v 2 f 6)), (2, .int (v 2 f 6)), (1, .int (nI f)), (0, .ref (qa_a y 0 0))] := hl
    refine lv_iload_n hx hb d_VF_spread_23 rfl (lv_at hl 2 rfl) ?_
    refine lv_iconst (v := 1) hx hb d_VF_spread_24 (by decide) ?_
    refine lv_iadd hx hb d_VF_spread_25 ?_
    refine lv_istore hx hb d_VF_spread_26 hl (by decide) rfl (fun ls hl => ?_)
    have hl : lv_has ls 5 [(4, .int ((nI f) + 1)), (3, .int (v 2 f 6)), (2, .int (v 2 f 6)), (1, .int (nI f)), (0, .ref (qa_a y 0 0))] := hl
    have e3 : nI f + 1 = nI (f + 1) := nI_1 f
    rw [e3] at hl
    refine loop (qa_n y - (f + 1)) (f + 1) ls (by omega) (by omega) ?_
    rw [show f + 1 - f - 1 = 0 by omega]
    exact lv_sub hl [0, 2, 1, 3, 4] rfl

set_option maxHeartbeats 4000000 in
set_option maxRecDepth 100000 in
theorem c_VF_alike (l : Launch) (y : qa_L) (v : qa_M) : qa_Pu l y_VF_alike b_VF_alike 3 (some .boolean) 2 [.ref (qa_a y 0 0)] (qa_W y v) (qb (qm_alv y v)) := by
  refine qa_ofPu (plainFor_of_name (by decide)) (Nat.le_of_ble_eq_true rfl) ?_
  intro p e s m below meth c ls F hr hlocks hW hl
  have E : qa_E p m c b_VF_alike 3 s _ "VotedFrames" y := ⟨F, hW.2⟩
  have hC : qa_C y v s s.heap [] := ⟨hW.1, va_S.rf⟩
  have hx := F.1
  have hb := F.2.1
  have hown : s.vm.findClass "VotedFrames" = some m.cls := F.2.2.2.1
  have hts := F.2.2.2.2
  have hn4 : 4 ≤ qa_n y := E.2.1.2.2.1
  have hn7 : qa_n y ≤ 7 := E.2.1.2.2.2.1
  have hl : lv_has ls 3 [(0, .ref (qa_a y 0 0))] := hl
  rcases qm_lcr_or (qa_n y) v with ⟨hno, e1⟩ | ⟨f, hf, hf0, hbef, e1⟩
  · have e2 : qm_lcr (qa_n y) v < 0 := by rw [e1]; decide
    refine lv_aload_n hx hb d_VF_alike_0 rfl (lv_at hl 0 rfl) ?_
    refine qa_pV (k := 0) (i := 0) (As := []) E hC (c_VF_leastCorrect l y v) Nat.one_pos rfl rfl k_VF_152 (qa_fitR (by decide) (by decide)) rfl hl.1 rfl (Nat.le_of_ble_eq_true rfl) d_VF_alike_1 ?_
    refine lv_istore_n hx hb d_VF_alike_4 rfl hl (by decide) rfl (fun ls hl => ?_)
    have hl : lv_has ls 3 [(1, .int (qm_lcr (qa_n y) v)), (0, .ref (qa_a y 0 0))] := hl
    refine lv_iload_n hx hb d_VF_alike_5 rfl (lv_at hl 0 rfl) ?_
    refine lv_if_ge hx hb d_VF_alike_6 rfl (fun h9 => absurd h9 (qm_nle e2)) (fun _ => ?_)
    refine lv_iconst (v := 1) hx hb d_VF_alike_9 (by decide) ?_
    exact qa_zret hx hb hr hlocks (qb_1 (qm_alv_no hno)) rfl d_VF_alike_10
  · have e2 : 0 ≤ qm_lcr (qa_n y) v := by rw [e1]; exact nI_pos' (by omega)
    have loop : ∀ (d k : Nat) (ls : Array Slot), k + d = qa_n y → (f < k ∧ ∀ a, f < a → a < k → v 2 a 9 = 0 → qm_alk y v a f = true) → lv_has ls 3 [(2, .int (nI k)), (1, .int (nI f)), (0, .ref (qa_a y 0 0))] → W p l e (qa_R 2) s m [.ref (qa_a y 0 0)].toArray below meth c s.heap [] 0 0 (MQ below (QcRead (qb (qm_alv y v))) [.ref (qa_a y 0 0)].toArray s 0 0 (fun _ => False)) (F0 m 15 ls []) := by
      intro d
      induction d with
      | zero =>
        intro k ls hkd hI hl
        obtain rfl : qa_n y = k := by omega
        refine lv_iload_n hx hb d_VF_alike_15 rfl (lv_at hl 0 rfl) ?_
        refine lv_aload_n hx hb d_VF_alike_16 rfl (lv_at hl 2 rfl) ?_
        refine qa_get (k := 0) (i := 0) (f := 0) (val := .int (nI (qa_n y))) E hC Nat.one_pos rfl rfl (by decide) f_VF_13 rfl rfl d_VF_alike_17 ?_
        refine lv_icmp_ge hx hb d_VF_alike_20 rfl (fun _ => ?_) (fun h9 => absurd (nI_le (Nat.le_refl _) (by omega)) h9)
        refine lv_iconst (v := 1) hx hb d_VF_alike_61 (by decide) ?_
        exact qa_zret hx hb hr hlocks (qb_1 (qm_alv_t hf0 hbef hI.2)) rfl d_VF_alike_62
      | succ d ih =>
        intro k ls hkd hI hl
        have hk : k < qa_n y := by omega
        refine lv_iload_n hx hb d_VF_alike_15 rfl (lv_at hl 0 rfl) ?_
        refine lv_aload_n hx hb d_VF_alike_16 rfl (lv_at hl 2 rfl) ?_
        refine qa_get (k := 0) (i := 0) (f := 0) (val := .int (nI (qa_n y))) E hC Nat.one_pos rfl rfl (by decide) f_VF_13 rfl rfl d_VF_alike_17 ?_
        refine lv_icmp_ge hx hb d_VF_alike_20 rfl (fun h9 => absurd h9 (nI_ge hk (by omega))) (fun _ => ?_)
        refine lv_aload_n hx hb d_VF_alike_23 rfl (lv_at hl 2 rfl) ?_
        refine qa_get (k := 0) (i := 0) (f := 3) (val := .ref (qa_a y 1 0)) E hC Nat.one_pos rfl rfl (by decide) f_VF_31 rfl rfl d_VF_alike_24 ?_
        refine lv_iload_n hx hb d_VF_alike_27 rfl (lv_at hl 0 rfl) ?_
        refine qa_ald (k := 1) (i := 0) (j := k) E hC Nat.one_pos rfl rfl rfl rfl rfl hk d_VF_alike_28 ?_
        refine qa_get (k := 2) (i := k) (f := 9) (val := .int (v 2 k 9)) E hC hk rfl rfl (by decide) f_VF_97 rfl rfl d_VF_alike_29 ?_
        refine lv_if_ne hx hb d_VF_alike_32 rfl (fun h32 => ?_) (fun h32 => ?_)
        · refine lv_iinc (v := nI (k + 1)) hx hb d_VF_alike_55 hl (k := 0) rfl (nI_1 k) (by decide) rfl (fun ls hl => ?_)
          have hl : lv_has ls 3 [(2, .int (nI (k + 1))), (1, .int (nI f)), (0, .ref (qa_a y 0 0))] := hl
          refine lv_goto hx hb d_VF_alike_58 rfl ?_
          exact ih (k + 1) ls (by omega) ⟨by omega, fun a h1 h2 => by
            by_cases q : a = k
            · rw [q]; exact fun h0 => absurd h0 h32
            · exact hI.2 a h1 (by omega)⟩ (lv_sub hl [0, 1, 2] rfl)
        · refine lv_aload_n hx hb d_VF_alike_35 rfl (lv_at hl 2 rfl) ?_
          refine qa_get (k := 0) (i := 0) (f := 3) (val := .ref (qa_a y 1 0)) E hC Nat.one_pos rfl rfl (by decide) f_VF_31 rfl rfl d_VF_alike_36 ?_
          refine lv_iload_n hx hb d_VF_alike_39 rfl (lv_at hl 0 rfl) ?_
          refine qa_ald (k := 1) (i := 0) (j := k) E hC Nat.one_pos rfl rfl rfl rfl rfl hk d_VF_alike_40 ?_
          refine lv_aload_n hx hb d_VF_alike_41 rfl (lv_at hl 2 rfl) ?_
          refine qa_get (k := 0) (i := 0) (f := 3) (val := .ref (qa_a y 1 0)) E hC Nat.one_pos rfl rfl (by decide) f_VF_31 rfl rfl d_VF_alike_42 ?_
          refine lv_iload_n hx hb d_VF_alike_45 rfl (lv_at hl 1 rfl) ?_
          refine qa_ald (k := 1) (i := 0) (j := f) E hC Nat.one_pos rfl rfl rfl rfl rfl hf d_VF_alike_46 ?_
          refine qa_pV (k := 2) (i := k) (As := [.ref (qa_a y 2 f)]) E hC (c_ND_holdsTheSameAs l y v k f hk hf) hk rfl rfl k_VF_164 (qa_fitR (by decide) (by decide)) rfl hl.1 rfl (Nat.le_of_ble_eq_true rfl) d_VF_alike_47 ?_
          refine lv_if_ne hx hb d_VF_alike_50 rfl (fun h50 => ?_) (fun h50 => ?_)
          · refine lv_iinc (v := nI (k + 1)) hx hb d_VF_alike_55 hl (k := 0) rfl (nI_1 k) (by decide) rfl (fun ls hl => ?_)
            have hl : lv_has ls 3 [(2, .int (nI (k + 1))), (1, .int (nI f)), (0, .ref (qa_a y 0 0))] := hl
            refine lv_goto hx hb d_VF_alike_58 rfl ?_
            exact ih (k + 1) ls (by omega) ⟨by omega, fun a h1 h2 => by
              by_cases q : a = k
              · rw [q]; exact fun _ => qb_n0 h50
              · exact hI.2 a h1 (by omega)⟩ (lv_sub hl [0, 1, 2] rfl)
          · refine lv_iconst (v := 0) hx hb d_VF_alike_53 (by decide) ?_
            exact qa_zret hx hb hr hlocks (qb_0 (qm_alv_f hk hf h32 hf0 (qb_e0 h50))) rfl d_VF_alike_54
    refine lv_aload_n hx hb d_VF_alike_0 rfl (lv_at hl 0 rfl) ?_
    refine qa_pV (k := 0) (i := 0) (As := []) E hC (c_VF_leastCorrect l y v) Nat.one_pos rfl rfl k_VF_152 (qa_fitR (by decide) (by decide)) rfl hl.1 rfl (Nat.le_of_ble_eq_true rfl) d_VF_alike_1 ?_
    refine lv_istore_n hx hb d_VF_alike_4 rfl hl (by decide) rfl (fun ls hl => ?_)
    have hl : lv_has ls 3 [(1, .int (qm_lcr (qa_n y) v)), (0, .ref (qa_a y 0 0))] := hl
    refine lv_iload_n hx hb d_VF_alike_5 rfl (lv_at hl 0 rfl) ?_
    refine lv_if_ge hx hb d_VF_alike_6 rfl (fun _ => ?_) (fun h9 => absurd e2 h9)
    have hl : lv_has ls 3 [(1, .int (nI f)), (0, .ref (qa_a y 0 0))] := by rw [e1] at hl; exact hl
    refine lv_iload_n hx hb d_VF_alike_11 rfl (lv_at hl 0 rfl) ?_
    refine lv_iconst (v := 1) hx hb d_VF_alike_12 (by decide) ?_
    refine lv_iadd hx hb d_VF_alike_13 ?_
    refine lv_istore_n hx hb d_VF_alike_14 rfl hl (by decide) rfl (fun ls hl => ?_)
    have hl : lv_has ls 3 [(2, .int ((nI f) + 1)), (1, .int (nI f)), (0, .ref (qa_a y 0 0))] := hl
    have e3 : nI f + 1 = nI (f + 1) := nI_1 f
    rw [e3] at hl
    exact loop (qa_n y - (f + 1)) (f + 1) ls (by omega) ⟨by omega, fun a h1 h2 => absurd h1 (by omega)⟩ (lv_sub hl [0, 1, 2] rfl)
