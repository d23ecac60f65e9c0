set_option maxHeartbeats 4000000 in
set_option maxRecDepth 100000 in
theorem c_VF_correctionFor (l : Launch) (y : qa_L) (v : qa_M) (i : Nat) (hi : i < qa_n y) : qa_Pu l y_VF_correctionFor b_VF_correctionFor 5 (some .int) 3 [.ref (qa_a y 0 0), .ref (qa_a y 2 i)] (qa_W y v) (qm_co y v i) := by
  refine qa_ofPu (plainFor_of_name (by decide)) (Nat.le_of_ble_eq_true rfl) ?_
  intro p e s m below meth c ls F hr hlocks hW hl
  have E : qa_E p m c b_VF_correctionFor 5 s _ "VotedFrames" y := ⟨F, hW.2⟩
  have hC : qa_C y v s s.heap [] := ⟨hW.1, va_S.rf⟩
  have hx := F.1
  have hb := F.2.1
  have hown : s.vm.findClass "VotedFrames" = some m.cls := F.2.2.2.1
  have hts := F.2.2.2.2
  have hn4 : 4 ≤ qa_n y := E.2.1.2.2.1
  have hn7 : qa_n y ≤ 7 := E.2.1.2.2.2.1
  have hl : lv_has ls 5 [(0, .ref (qa_a y 0 0)), (1, .ref (qa_a y 2 i))] := hl
  have loop : ∀ (d k : Nat) (ls : Array Slot), k + d = qa_n y → lv_has ls 5 [(3, .int (nI k)), (2, .int (qm_sm y v i k)), (0, .ref (qa_a y 0 0)), (1, .ref (qa_a y 2 i))] → W p l e (qa_R 3) s m [.ref (qa_a y 0 0), .ref (qa_a y 2 i)].toArray below meth c s.heap [] 0 0 (MQ below (QcRead (qm_co y v i)) [.ref (qa_a y 0 0), .ref (qa_a y 2 i)].toArray s 0 0 (fun _ => False)) (F0 m 4 ls []) := by
    intro d
    induction d with
    | zero =>
      intro k ls hkd hl
      obtain rfl : qa_n y = k := by omega
      refine lv_iload_n hx hb d_VF_correctionFor_4 rfl (lv_at hl 0 rfl) ?_
      refine lv_aload_n hx hb d_VF_correctionFor_5 rfl (lv_at hl 2 rfl) ?_
      refine qa_get (k := 0) (i := 0) (f := 0) (val := .int (nI (qa_n y))) E hC Nat.one_pos rfl rfl (by decide) f_VF_13 rfl rfl d_VF_correctionFor_6 ?_
      refine lv_icmp_ge hx hb d_VF_correctionFor_9 rfl (fun _ => ?_) (fun h9 => absurd (nI_le (Nat.le_refl _) (by omega)) h9)
      refine lv_aload_n hx hb d_VF_correctionFor_85 rfl (lv_at hl 3 rfl) ?_
      refine qa_pV (k := 2) (i := i) (As := []) E hC (c_ND_memberCount l y v i hi) hi rfl rfl k_VF_225 (qa_fitR (by decide) (by decide)) rfl hl.1 rfl (Nat.le_of_ble_eq_true rfl) d_VF_correctionFor_86 ?_
      refine lv_istore_n hx hb d_VF_correctionFor_89 rfl hl (by decide) rfl (fun ls hl => ?_)
      have hl : lv_has ls 5 [(3, .int (qm_bc (v 2 i 11))), (2, .int (qm_sm y v i (qa_n y))), (0, .ref (qa_a y 0 0)), (1, .ref (qa_a y 2 i))] := hl
      refine lv_iload_n hx hb d_VF_correctionFor_90 rfl (lv_at hl 0 rfl) ?_
      refine lv_if_ne hx hb d_VF_correctionFor_91 rfl (fun h91 => ?_) (fun h91 => ?_)
      · refine lv_iload_n hx hb d_VF_correctionFor_98 rfl (lv_at hl 1 rfl) ?_
        refine lv_iload_n hx hb d_VF_correctionFor_99 rfl (lv_at hl 0 rfl) ?_
        refine qa_pT (As := [.int (qm_sm y v i (qa_n y)), .int (qm_bc (v 2 i 11))]) F (c_JM_floorDiv l (qm_sm y v i (qa_n y)) (qm_bc (v 2 i 11)) h91) k_VF_262 (qa_fitR (by decide) (by decide)) rfl hl.1 rfl (Nat.le_of_ble_eq_true rfl) d_VF_correctionFor_100 ?_
        exact qa_iret hx hb hr hlocks (by unfold qm_co; rw [if_neg h91]) d_VF_correctionFor_103
      · refine lv_iconst (v := 0) hx hb d_VF_correctionFor_94 (by decide) ?_
        refine lv_goto hx hb d_VF_correctionFor_95 rfl ?_
        exact qa_iret hx hb hr hlocks (by unfold qm_co; rw [if_pos h91]) d_VF_correctionFor_103
    | succ d ih =>
      intro k ls hkd hl
      have hk : k < qa_n y := by omega
      refine lv_iload_n hx hb d_VF_correctionFor_4 rfl (lv_at hl 0 rfl) ?_
      refine lv_aload_n hx hb d_VF_correctionFor_5 rfl (lv_at hl 2 rfl) ?_
      refine qa_get (k := 0) (i := 0) (f := 0) (val := .int (nI (qa_n y))) E hC Nat.one_pos rfl rfl (by decide) f_VF_13 rfl rfl d_VF_correctionFor_6 ?_
      refine lv_icmp_ge hx hb d_VF_correctionFor_9 rfl (fun h9 => absurd h9 (nI_ge hk (by omega))) (fun _ => ?_)
      refine lv_iload_n hx hb d_VF_correctionFor_12 rfl (lv_at hl 0 rfl) ?_
      refine lv_aload_n hx hb d_VF_correctionFor_13 rfl (lv_at hl 3 rfl) ?_
      refine qa_get (k := 2) (i := i) (f := 0) (val := .int (nI i)) E hC hi rfl rfl (by decide) f_VF_236 rfl rfl d_VF_correctionFor_14 ?_
      refine lv_icmp_eq hx hb d_VF_correctionFor_17 rfl (fun h17 => ?_) (fun h17 => ?_)
      · refine lv_iinc (v := nI (k + 1)) hx hb d_VF_correctionFor_79 hl (k := 0) rfl (nI_1 k) (by decide) rfl (fun ls hl => ?_)
        have hl : lv_has ls 5 [(3, .int (nI (k + 1))), (2, .int (qm_sm y v i k)), (0, .ref (qa_a y 0 0)), (1, .ref (qa_a y 2 i))] := hl
        refine lv_goto hx hb d_VF_correctionFor_82 rfl ?_
        have e5 : qm_sm y v i (k + 1) = qm_sm y v i k := if_neg (fun z => z.1 ((nI_eq (by omega) (by omega)).mp h17))
        refine ih (k + 1) ls (by omega) ?_
        rw [e5]
        exact lv_sub hl [0, 1, 2, 3] rfl
      · refine lv_aload_n hx hb d_VF_correctionFor_20 rfl (lv_at hl 3 rfl) ?_
        refine qa_get (k := 2) (i := i) (f := 11) (val := .int (v 2 i 11)) E hC hi rfl rfl (by decide) f_VF_142 rfl rfl d_VF_correctionFor_21 ?_
        refine lv_iload_n hx hb d_VF_correctionFor_24 rfl (lv_at hl 0 rfl) ?_
        refine qa_pT (As := [.int (v 2 i 11), .int (nI k)]) F (c_VF_contains l (v 2 i 11) (nI k)) k_VF_239 (qa_fitR (by decide) (by decide)) rfl hl.1 rfl (Nat.le_of_ble_eq_true rfl) d_VF_correctionFor_25 ?_
        refine lv_if_eq hx hb d_VF_correctionFor_28 rfl (fun h28 => ?_) (fun h28 => ?_)
        · refine lv_iinc (v := nI (k + 1)) hx hb d_VF_correctionFor_79 hl (k := 0) rfl (nI_1 k) (by decide) rfl (fun ls hl => ?_)
          have hl : lv_has ls 5 [(3, .int (nI (k + 1))), (2, .int (qm_sm y v i k)), (0, .ref (qa_a y 0 0)), (1, .ref (qa_a y 2 i))] := hl
          refine lv_goto hx hb d_VF_correctionFor_82 rfl ?_
          have e5 : qm_sm y v i (k + 1) = qm_sm y v i k := if_neg (fun z => by rw [z.2.1] at h28; exact absurd h28 (by decide))
          refine ih (k + 1) ls (by omega) ?_
          rw [e5]
          exact lv_sub hl [0, 1, 2, 3] rfl
        · refine lv_aload_n hx hb d_VF_correctionFor_31 rfl (lv_at hl 2 rfl) ?_
          refine qa_get (k := 0) (i := 0) (f := 3) (val := .ref (qa_a y 1 0)) E hC Nat.one_pos rfl rfl (by decide) f_VF_31 rfl rfl d_VF_correctionFor_32 ?_
          refine lv_iload_n hx hb d_VF_correctionFor_35 rfl (lv_at hl 0 rfl) ?_
          refine qa_ald (k := 1) (i := 0) (j := k) E hC Nat.one_pos rfl rfl rfl rfl rfl hk d_VF_correctionFor_36 ?_
          refine qa_get (k := 2) (i := k) (f := 9) (val := .int (v 2 k 9)) E hC hk rfl rfl (by decide) f_VF_97 rfl rfl d_VF_correctionFor_37 ?_
          refine lv_iconst (v := 1) hx hb d_VF_correctionFor_40 (by decide) ?_
          refine lv_icmp_eq hx hb d_VF_correctionFor_41 rfl (fun h41 => ?_) (fun h41 => ?_)
          · refine lv_iinc (v := nI (k + 1)) hx hb d_VF_correctionFor_79 hl (k := 0) rfl (nI_1 k) (by decide) rfl (fun ls hl => ?_)
            have hl : lv_has ls 5 [(3, .int (nI (k + 1))), (2, .int (qm_sm y v i k)), (0, .ref (qa_a y 0 0)), (1, .ref (qa_a y 2 i))] := hl
            refine lv_goto hx hb d_VF_correctionFor_82 rfl ?_
            have e5 : qm_sm y v i (k + 1) = qm_sm y v i k := if_neg (fun z => z.2.2 h41)
            refine ih (k + 1) ls (by omega) ?_
            rw [e5]
            exact lv_sub hl [0, 1, 2, 3] rfl
          · refine lv_aload_n hx hb d_VF_correctionFor_44 rfl (lv_at hl 3 rfl) ?_
            refine lv_aload_n hx hb d_VF_correctionFor_45 rfl (lv_at hl 2 rfl) ?_
            refine qa_get (k := 0) (i := 0) (f := 3) (val := .ref (qa_a y 1 0)) E hC Nat.one_pos rfl rfl (by decide) f_VF_31 rfl rfl d_VF_correctionFor_46 ?_
            refine lv_iload_n hx hb d_VF_correctionFor_49 rfl (lv_at hl 0 rfl) ?_
            refine qa_ald (k := 1) (i := 0) (j := k) E hC Nat.one_pos rfl rfl rfl rfl rfl hk d_VF_correctionFor_50 ?_
            refine qa_pV (k := 2) (i := i) (As := [.ref (qa_a y 2 k)]) E hC (c_ND_differenceTo l y v i k hi hk) hi rfl rfl k_VF_259 (qa_fitR (by decide) (by decide)) rfl hl.1 rfl (Nat.le_of_ble_eq_true rfl) d_VF_correctionFor_51 ?_
            refine lv_istore hx hb d_VF_correctionFor_54 hl (by decide) rfl (fun ls hl => ?_)
            have hl : lv_has ls 5 [(4, .int (qm_shows (v 2 k 9) (v 2 k 10) (v 2 k 6) (nI i) + v 4 i k - v 2 i 6)), (3, .int (nI k)), (2, .int (qm_sm y v i k)), (0, .ref (qa_a y 0 0)), (1, .ref (qa_a y 2 i))] := hl
            refine lv_iload_n hx hb d_VF_correctionFor_56 rfl (lv_at hl 2 rfl) ?_
            refine lv_iload hx hb d_VF_correctionFor_57 (lv_at hl 0 rfl) ?_
            refine lv_aload_n hx hb d_VF_correctionFor_59 rfl (lv_at hl 3 rfl) ?_
            refine qa_get (k := 0) (i := 0) (f := 2) (val := .int (qa_d y)) E hC Nat.one_pos rfl rfl (by decide) f_VF_24 rfl rfl d_VF_correctionFor_60 ?_
            refine lv_iconst (v := 3) hx hb d_VF_correctionFor_63 (by decide) ?_
            refine lv_iadd hx hb d_VF_correctionFor_64 ?_
            refine qa_pT (As := [.int (qm_shows (v 2 k 9) (v 2 k 10) (v 2 k 6) (nI i) + v 4 i k - v 2 i 6), .int ((qa_d y) + 3)]) F (c_VF_isAtMost l (qm_shows (v 2 k 9) (v 2 k 10) (v 2 k 6) (nI i) + v 4 i k - v 2 i 6) ((qa_d y) + 3)) k_VF_76 (qa_fitR (by decide) (by decide)) rfl hl.1 rfl (Nat.le_of_ble_eq_true rfl) d_VF_correctionFor_65 ?_
            refine lv_if_eq hx hb d_VF_correctionFor_68 rfl (fun h68 => ?_) (fun h68 => ?_)
            · refine lv_iconst (v := 0) hx hb d_VF_correctionFor_76 (by decide) ?_
              refine lv_iadd hx hb d_VF_correctionFor_77 ?_
              refine lv_istore_n hx hb d_VF_correctionFor_78 rfl hl (by decide) rfl (fun ls hl => ?_)
              have hl : lv_has ls 5 [(2, .int ((qm_sm y v i k) + 0)), (4, .int (qm_shows (v 2 k 9) (v 2 k 10) (v 2 k 6) (nI i) + v 4 i k - v 2 i 6)), (3, .int (nI k)), (0, .ref (qa_a y 0 0)), (1, .ref (qa_a y 2 i))] := hl
              refine lv_iinc (v := nI (k + 1)) hx hb d_VF_correctionFor_79 hl (k := 2) rfl (nI_1 k) (by decide) rfl (fun ls hl => ?_)
              have hl : lv_has ls 5 [(3, .int (nI (k + 1))), (2, .int ((qm_sm y v i k) + 0)), (4, .int (qm_shows (v 2 k 9) (v 2 k 10) (v 2 k 6) (nI i) + v 4 i k - v 2 i 6)), (0, .ref (qa_a y 0 0)), (1, .ref (qa_a y 2 i))] := hl
              refine lv_goto hx hb d_VF_correctionFor_82 rfl ?_
              have e5 : qm_sm y v i (k + 1) = qm_sm y v i k + 0 := by rw [qm_sm, if_pos ⟨fun z => h17 (by rw [z]), qb_n0 h28, h41⟩, if_neg (by have h8 : qb (qm_wi (qm_df v i k) (-(qa_d y + 3)) (qa_d y + 3)) = 0 := h68; rw [qb_e0 h8]; decide)]
              refine ih (k + 1) ls (by omega) ?_
              rw [e5]
              exact lv_sub hl [0, 1, 3, 4] rfl
            · refine lv_iload hx hb d_VF_correctionFor_71 (lv_at hl 0 rfl) ?_
              refine lv_goto hx hb d_VF_correctionFor_73 rfl ?_
              refine lv_iadd hx hb d_VF_correctionFor_77 ?_
              refine lv_istore_n hx hb d_VF_correctionFor_78 rfl hl (by decide) rfl (fun ls hl => ?_)
              have hl : lv_has ls 5 [(2, .int ((qm_sm y v i k) + (qm_shows (v 2 k 9) (v 2 k 10) (v 2 k 6) (nI i) + v 4 i k - v 2 i 6))), (4, .int (qm_shows (v 2 k 9) (v 2 k 10) (v 2 k 6) (nI i) + v 4 i k - v 2 i 6)), (3, .int (nI k)), (0, .ref (qa_a y 0 0)), (1, .ref (qa_a y 2 i))] := hl
              refine lv_iinc (v := nI (k + 1)) hx hb d_VF_correctionFor_79 hl (k := 2) rfl (nI_1 k) (by decide) rfl (fun ls hl => ?_)
              have hl : lv_has ls 5 [(3, .int (nI (k + 1))), (2, .int ((qm_sm y v i k) + (qm_shows (v 2 k 9) (v 2 k 10) (v 2 k 6) (nI i) + v 4 i k - v 2 i 6))), (4, .int (qm_shows (v 2 k 9) (v 2 k 10) (v 2 k 6) (nI i) + v 4 i k - v 2 i 6)), (0, .ref (qa_a y 0 0)), (1, .ref (qa_a y 2 i))] := hl
              refine lv_goto hx hb d_VF_correctionFor_82 rfl ?_
              have e5 : qm_sm y v i (k + 1) = qm_sm y v i k + qm_df v i k := by rw [qm_sm, if_pos ⟨fun z => h17 (by rw [z]), qb_n0 h28, h41⟩, if_pos (qb_n0 (b := qm_wi (qm_df v i k) (-(qa_d y + 3)) (qa_d y + 3)) h68)]
              refine ih (k + 1) ls (by omega) ?_
              rw [e5]
              exact lv_sub hl [0, 1, 3, 4] rfl
  refine lv_iconst (v := 0) hx hb d_VF_correctionFor_0 (by decide) ?_
  refine lv_istore_n hx hb d_VF_correctionFor_1 rfl hl (by decide) rfl (fun ls hl => ?_)
  have hl : lv_has ls 5 [(2, .int 0), (0, .ref (qa_a y 0 0)), (1, .ref (qa_a y 2 i))] := hl
  refine lv_iconst (v := 0) hx hb d_VF_correctionFor_2 (by decide) ?_
  refine lv_istore_n hx hb d_VF_correctionFor_3 rfl hl (by decide) rfl (fun ls hl => ?_)
  have hl : lv_has ls 5 [(3, .int 0), (2, .int 0), (0, .ref (qa_a y 0 0)), (1, .ref (qa_a y 2 i))] := hl
  exact loop (qa_n y) 0 ls (by omega) (lv_sub hl [0, 1, 2, 3] rfl)

set_option maxHeartbeats 4000000 in
set_option maxRecDepth 100000 in
theorem c_VF_correctClocks (l : Launch) (y : qa_L) (v : qa_M) : qa_Mv l y_VF_correctClocks b_VF_correctClocks 2 4 [.ref (qa_a y 0 0)] y v (fun u => u = qm_P5 y v) := by
  refine qa_ofMv (plainFor_of_name (by decide)) (Nat.le_of_ble_eq_true rfl) ?_
  intro p e s m below meth c ls E hr hlocks hC hl
  have E : qa_E p m c b_VF_correctClocks 2 s _ "VotedFrames" y := E
  have F := E.1
  have hx := F.1
  have hb := F.2.1
  have hown : s.vm.findClass "VotedFrames" = some m.cls := F.2.2.2.1
  have hts := F.2.2.2.2
  have hn4 : 4 ≤ qa_n y := E.2.1.2.2.1
  have hn7 : qa_n y ≤ 7 := E.2.1.2.2.2.1
  have hl : lv_has ls 2 [(0, .ref (qa_a y 0 0))] := hl
  have loop : ∀ (d i : Nat) (u : qa_M) (H : Heap) (locs : List Loc) (ls : Array Slot), i + d = qa_n y → qa_C y u s H locs → ((∀ a b f, ¬ (a = 2 ∧ b < i ∧ f = 14) → u a b f = v a b f) ∧ ∀ b, b < i → u 2 b 14 = qm_co y v b) → lv_has ls 2 [(1, .int (nI i)), (0, .ref (qa_a y 0 0))] → W p l e (qa_R 4) s m [.ref (qa_a y 0 0)].toArray below meth c H locs 0 0 (MQ below (va_Qv (fun u => u = qm_P5 y v) (fun u t => qa_W y u t) (qa_A y)) [.ref (qa_a y 0 0)].toArray s 0 0 (qa_A y)) (F0 m 2 ls []) := by
    intro d
    induction d with
    | zero =>
      intro i u H locs ls hkd hC hI hl
      obtain rfl : qa_n y = i := by omega
      refine lv_iload_n hx hb d_VF_correctClocks_2 rfl (lv_at hl 0 rfl) ?_
      refine lv_aload_n hx hb d_VF_correctClocks_3 rfl (lv_at hl 1 rfl) ?_
      refine qa_get (k := 0) (i := 0) (f := 0) (val := .int (nI (qa_n y))) E hC Nat.one_pos rfl rfl (by decide) f_VF_13 rfl rfl d_VF_correctClocks_4 ?_
      refine lv_icmp_ge hx hb d_VF_correctClocks_7 rfl (fun _ => ?_) (fun h9 => absurd (nI_le (Nat.le_refl _) (by omega)) h9)
      refine lv_iconst (v := 0) hx hb d_VF_correctClocks_35 (by decide) ?_
      refine lv_istore_n hx hb d_VF_correctClocks_36 rfl hl (by decide) rfl (fun ls hl => ?_)
      have hl : lv_has ls 2 [(1, .int 0), (0, .ref (qa_a y 0 0))] := hl
      have hI1 := hI
      have loop2 : ∀ (d i : Nat) (u : qa_M) (H : Heap) (locs : List Loc) (ls : Array Slot), i + d = qa_n y → qa_C y u s H locs → ((∀ a b f, ¬ (a = 2 ∧ b < qa_n y ∧ f = 14) → ¬ (a = 2 ∧ b < i ∧ f = 6) → u a b f = v a b f) ∧ (∀ b, b < qa_n y → u 2 b 14 = qm_co y v b) ∧ ∀ b, b < i → u 2 b 6 = v 2 b 6 + (qm_co y v b + v 2 b 7)) → lv_has ls 2 [(1, .int (nI i)), (0, .ref (qa_a y 0 0))] → W p l e (qa_R 4) s m [.ref (qa_a y 0 0)].toArray below meth c H locs 0 0 (MQ below (va_Qv (fun u => u = qm_P5 y v) (fun u t => qa_W y u t) (qa_A y)) [.ref (qa_a y 0 0)].toArray s 0 0 (qa_A y)) (F0 m 37 ls []) := by
        intro d
        induction d with
        | zero =>
          intro i u H locs ls hkd hC hI2 hl
          obtain rfl : qa_n y = i := by omega
          refine lv_iload_n hx hb d_VF_correctClocks_37 rfl (lv_at hl 0 rfl) ?_
          refine lv_aload_n hx hb d_VF_correctClocks_38 rfl (lv_at hl 1 rfl) ?_
          refine qa_get (k := 0) (i := 0) (f := 0) (val := .int (nI (qa_n y))) E hC Nat.one_pos rfl rfl (by decide) f_VF_13 rfl rfl d_VF_correctClocks_39 ?_
          refine lv_icmp_ge hx hb d_VF_correctClocks_42 rfl (fun _ => ?_) (fun h9 => absurd (nI_le (Nat.le_refl _) (by omega)) h9)
          exact qa_mvret E hC hr hlocks (by
              funext a b f
              unfold qm_P5
              by_cases c1 : a = 2 ∧ b < qa_n y ∧ f = 14
              · rw [if_pos c1]
                obtain ⟨rfl, hb9, rfl⟩ := c1
                exact hI2.2.1 b hb9
              · rw [if_neg c1]
                by_cases c2 : a = 2 ∧ b < qa_n y ∧ f = 6
                · rw [if_pos c2]
                  obtain ⟨rfl, hb9, rfl⟩ := c2
                  exact hI2.2.2 b hb9
                · rw [if_neg c2]
                  exact hI2.1 a b f c1 c2) d_VF_correctClocks_84
        | succ d ih2 =>
          intro i u H locs ls hkd hC hI2 hl
          have hi : i < qa_n y := by omega
          refine lv_iload_n hx hb d_VF_correctClocks_37 rfl (lv_at hl 0 rfl) ?_
          refine lv_aload_n hx hb d_VF_correctClocks_38 rfl (lv_at hl 1 rfl) ?_
          refine qa_get (k := 0) (i := 0) (f := 0) (val := .int (nI (qa_n y))) E hC Nat.one_pos rfl rfl (by decide) f_VF_13 rfl rfl d_VF_correctClocks_39 ?_
          refine lv_icmp_ge hx hb d_VF_correctClocks_42 rfl (fun h9 => absurd h9 (nI_ge hi (by omega))) (fun _ => ?_)
          refine lv_aload_n hx hb d_VF_correctClocks_45 rfl (lv_at hl 1 rfl) ?_
          refine qa_get (k := 0) (i := 0) (f := 3) (val := .ref (qa_a y 1 0)) E hC Nat.one_pos rfl rfl (by decide) f_VF_31 rfl rfl d_VF_correctClocks_46 ?_
          refine lv_iload_n hx hb d_VF_correctClocks_49 rfl (lv_at hl 0 rfl) ?_
          refine qa_ald (k := 1) (i := 0) (j := i) E hC Nat.one_pos rfl rfl rfl rfl rfl hi d_VF_correctClocks_50 ?_
          refine lv_dup hx hb d_VF_correctClocks_51 rfl ?_
          refine qa_get (k := 2) (i := i) (f := 6) (val := .int (u 2 i 6)) E hC hi rfl rfl (by decide) f_VF_80 rfl rfl d_VF_correctClocks_52 ?_
          refine lv_aload_n hx hb d_VF_correctClocks_55 rfl (lv_at hl 1 rfl) ?_
          refine qa_get (k := 0) (i := 0) (f := 3) (val := .ref (qa_a y 1 0)) E hC Nat.one_pos rfl rfl (by decide) f_VF_31 rfl rfl d_VF_correctClocks_56 ?_
          refine lv_iload_n hx hb d_VF_correctClocks_59 rfl (lv_at hl 0 rfl) ?_
          refine qa_ald (k := 1) (i := 0) (j := i) E hC Nat.one_pos rfl rfl rfl rfl rfl hi d_VF_correctClocks_60 ?_
          refine qa_get (k := 2) (i := i) (f := 14) (val := .int (u 2 i 14)) E hC hi rfl rfl (by decide) f_VF_130 rfl rfl d_VF_correctClocks_61 ?_
          refine lv_aload_n hx hb d_VF_correctClocks_64 rfl (lv_at hl 1 rfl) ?_
          refine qa_get (k := 0) (i := 0) (f := 3) (val := .ref (qa_a y 1 0)) E hC Nat.one_pos rfl rfl (by decide) f_VF_31 rfl rfl d_VF_correctClocks_65 ?_
          refine lv_iload_n hx hb d_VF_correctClocks_68 rfl (lv_at hl 0 rfl) ?_
          refine qa_ald (k := 1) (i := 0) (j := i) E hC Nat.one_pos rfl rfl rfl rfl rfl hi d_VF_correctClocks_69 ?_
          refine qa_get (k := 2) (i := i) (f := 7) (val := .int (u 2 i 7)) E hC hi rfl rfl (by decide) f_VF_85 rfl rfl d_VF_correctClocks_70 ?_
          refine lv_iadd hx hb d_VF_correctClocks_73 ?_
          refine lv_iadd hx hb d_VF_correctClocks_74 ?_
          refine qa_put (k := 2) (i := i) (f := 6) E hC hi rfl rfl (by decide) f_VF_80 rfl rfl rfl rfl d_VF_correctClocks_75 (fun H locs hC => ?_)
          refine lv_iinc (v := nI (i + 1)) hx hb d_VF_correctClocks_78 hl (k := 0) rfl (nI_1 i) (by decide) rfl (fun ls hl => ?_)
          have hl : lv_has ls 2 [(1, .int (nI (i + 1))), (0, .ref (qa_a y 0 0))] := hl
          refine lv_goto hx hb d_VF_correctClocks_81 rfl ?_
          refine ih2 (i + 1) _ H locs ls (by omega) hC ⟨fun a b f h h0 => ?_, fun b hb => ?_, lt_s (fun b hb => ?_) ?_⟩ (lv_sub hl [0, 1] rfl)
          · rw [show qa_up u 2 i 6 _ a b f = u a b f by simp only [qa_up]; rw [if_neg]; exact fun z => h0 ⟨z.1, by omega, z.2.2⟩]; exact hI2.1 a b f h (fun z => h0 ⟨z.1, by omega, z.2.2⟩)
          · rw [qa_up_f (by decide)]; exact hI2.2.1 b hb
          · rw [qa_up_i (by omega)]; exact hI2.2.2 b hb
          · rw [qa_up_s, hI2.2.1 i hi, hI2.1 2 i 6 (by omega) (by omega), hI2.1 2 i 7 (by omega) (by omega)]
      exact loop2 (qa_n y) 0 u H locs ls (by omega) hC ⟨fun a b f h _ => hI1.1 a b f h, hI1.2, lt_0⟩ (lv_sub hl [0, 1] rfl)
    | succ d ih =>
      intro i u H locs ls hkd hC hI hl
      have hi : i < qa_n y := by omega
      refine lv_iload_n hx hb d_VF_correctClocks_2 rfl (lv_at hl 0 rfl) ?_
      refine lv_aload_n hx hb d_VF_correctClocks_3 rfl (lv_at hl 1 rfl) ?_
      refine qa_get (k := 0) (i := 0) (f := 0) (val := .int (nI (qa_n y))) E hC Nat.one_pos rfl rfl (by decide) f_VF_13 rfl rfl d_VF_correctClocks_4 ?_
      refine lv_icmp_ge hx hb d_VF_correctClocks_7 rfl (fun h9 => absurd h9 (nI_ge hi (by omega))) (fun _ => ?_)
      refine lv_aload_n hx hb d_VF_correctClocks_10 rfl (lv_at hl 1 rfl) ?_
      refine qa_get (k := 0) (i := 0) (f := 3) (val := .ref (qa_a y 1 0)) E hC Nat.one_pos rfl rfl (by decide) f_VF_31 rfl rfl d_VF_correctClocks_11 ?_
      refine lv_iload_n hx hb d_VF_correctClocks_14 rfl (lv_at hl 0 rfl) ?_
      refine qa_ald (k := 1) (i := 0) (j := i) E hC Nat.one_pos rfl rfl rfl rfl rfl hi d_VF_correctClocks_15 ?_
      refine lv_aload_n hx hb d_VF_correctClocks_16 rfl (lv_at hl 1 rfl) ?_
      refine lv_aload_n hx hb d_VF_correctClocks_17 rfl (lv_at hl 1 rfl) ?_
      refine qa_get (k := 0) (i := 0) (f := 3) (val := .ref (qa_a y 1 0)) E hC Nat.one_pos rfl rfl (by decide) f_VF_31 rfl rfl d_VF_correctClocks_18 ?_
      refine lv_iload_n hx hb d_VF_correctClocks_21 rfl (lv_at hl 0 rfl) ?_
      refine qa_ald (k := 1) (i := 0) (j := i) E hC Nat.one_pos rfl rfl rfl rfl rfl hi d_VF_correctClocks_22 ?_
      refine qa_pV (k := 0) (i := 0) (As := [.ref (qa_a y 2 i)]) E hC (c_VF_correctionFor l y u i hi) Nat.one_pos rfl rfl k_VF_256 (qa_fitR (by decide) (by decide)) rfl hl.1 rfl (Nat.le_of_ble_eq_true rfl) d_VF_correctClocks_23 ?_
      have eco : qm_co y u i = qm_co y v i := qm_co_n (fun j f hf => hI.1 2 j f (fun z => hf z.2.2)) (fun k => hI.1 4 i k (by omega))
      rw [eco]
      refine qa_put (k := 2) (i := i) (f := 14) E hC hi rfl rfl (by decide) f_VF_130 rfl rfl rfl rfl d_VF_correctClocks_26 (fun H locs hC => ?_)
      refine lv_iinc (v := nI (i + 1)) hx hb d_VF_correctClocks_29 hl (k := 0) rfl (nI_1 i) (by decide) rfl (fun ls hl => ?_)
      have hl : lv_has ls 2 [(1, .int (nI (i + 1))), (0, .ref (qa_a y 0 0))] := hl
      refine lv_goto hx hb d_VF_correctClocks_32 rfl ?_
      refine ih (i + 1) _ H locs ls (by omega) hC ⟨fun a b f h => ?_, lt_s (fun b hb => ?_) ?_⟩ (lv_sub hl [0, 1] rfl)
      · rw [show qa_up u 2 i 14 _ a b f = u a b f by simp only [qa_up]; rw [if_neg]; exact fun z => h ⟨z.1, by omega, z.2.2⟩]; exact hI.1 a b f (fun z => h ⟨z.1, by omega, z.2.2⟩)
      · rw [qa_up_i (by omega)]; exact hI.2 b hb
      · exact qa_up_s
  refine lv_iconst (v := 0) hx hb d_VF_correctClocks_0 (by decide) ?_
  refine lv_istore_n hx hb d_VF_correctClocks_1 rfl hl (by decide) rfl (fun ls hl => ?_)
  have hl : lv_has ls 2 [(1, .int 0), (0, .ref (qa_a y 0 0))] := hl
  exact loop (qa_n y) 0 v _ _ ls (by omega) hC ⟨fun _ _ _ _ => rfl, lt_0⟩ (lv_sub hl [0, 1] rfl)
