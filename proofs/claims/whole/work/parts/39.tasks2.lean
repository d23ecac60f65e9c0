set_option maxHeartbeats 4000000 in
set_option maxRecDepth 100000 in
theorem c_VF_runDueTasks (l : Launch) (y : qa_L) (v : qa_M) (hv : qm_vok y v) (hp : qm_pok (qa_n y) v) (h19 : v 19 0 = fun _ => 0) : qa_Mv l y_VF_runDueTasks b_VF_runDueTasks 4 4 [.ref (qa_a y 0 0)] y v (fun u => ∀ a, a ≠ 16 → a ≠ 17 → a ≠ 20 → a ≠ 21 → u a = qm_P2 y v 4 a) := by
  refine qa_ofMv (plainFor_of_name (by decide)) (Nat.le_of_ble_eq_true rfl) ?_
  intro p e s m below meth c ls E hr hlocks hC hl
  have E : qa_E p m c b_VF_runDueTasks 4 s _ "VotedFrames" y := E
  have F := E.1
  have hx := F.1
  have hb := F.2.1
  have hown : s.vm.findClass "VotedFrames" = some m.cls := F.2.2.2.1
  have hts := F.2.2.2.2
  have hn4 : 4 ≤ qa_n y := E.2.1.2.2.1
  have hn7 : qa_n y ≤ 7 := E.2.1.2.2.2.1
  have hl : lv_has ls 4 [(0, .ref (qa_a y 0 0))] := hl
  rcases qm_lcr_or (qa_n y) v with ⟨hno, e1⟩ | ⟨f, hf, hf0, hbef, e1⟩
  · have e2 : qm_lcr (qa_n y) v < 0 := by rw [e1]; decide
    have loop : ∀ (d t : Nat) (u : qa_M) (H : Heap) (locs : List Loc) (ls : Array Slot), t + d = 4 → qa_C y u s H locs → (∀ a, a ≠ 16 → a ≠ 17 → a ≠ 20 → a ≠ 21 → u a = qm_P2 y v t a) → lv_has ls 4 [(3, .int (nI t)), (2, .ref (qa_a y 19 0)), (1, .int (qm_lcr (qa_n y) v)), (0, .ref (qa_a y 0 0))] → W p l e (qa_R 4) s m [.ref (qa_a y 0 0)].toArray below meth c H locs 0 0 (MQ below (va_Qv (fun u => ∀ a, a ≠ 16 → a ≠ 17 → a ≠ 20 → a ≠ 21 → u a = qm_P2 y v 4 a) (fun u t => qa_W y u t) (qa_A y)) [.ref (qa_a y 0 0)].toArray s 0 0 (qa_A y)) (F0 m 28 ls []) := by
      intro d
      induction d with
      | zero =>
        intro t u H locs ls hkd hC hI hl
        obtain rfl : 4 = t := by omega
        refine lv_iload_n hx hb d_VF_runDueTasks_28 rfl (lv_at hl 0 rfl) ?_
        refine lv_iconst (v := 4) hx hb d_VF_runDueTasks_29 (by decide) ?_
        refine lv_icmp_ge hx hb d_VF_runDueTasks_30 rfl (fun _ => ?_) (fun h9 => absurd (show (4 : Int32) ≤ nI 4 by decide) h9)
        exact qa_mvret E hC hr hlocks hI d_VF_runDueTasks_84
      | succ d ih =>
        intro t u H locs ls hkd hC hI hl
        have ht : t < 4 := by omega
        refine lv_iload_n hx hb d_VF_runDueTasks_28 rfl (lv_at hl 0 rfl) ?_
        refine lv_iconst (v := 4) hx hb d_VF_runDueTasks_29 (by decide) ?_
        refine lv_icmp_ge hx hb d_VF_runDueTasks_30 rfl (fun h9 => absurd h9 (show ¬ (4 : Int32) ≤ nI t from nI_ge (b := 4) ht (by decide))) (fun _ => ?_)
        have k13 : u 13 = v 13 := (hI 13 (by decide) (by decide) (by decide) (by decide)).trans (qm_P2_kk t (by decide) (by decide) (by decide))
        have k14 : u 14 = v 14 := (hI 14 (by decide) (by decide) (by decide) (by decide)).trans (qm_P2_kk t (by decide) (by decide) (by decide))
        have k15 : u 15 = v 15 := (hI 15 (by decide) (by decide) (by decide) (by decide)).trans (qm_P2_kk t (by decide) (by decide) (by decide))
        obtain ⟨L, hL12, hL, hP⟩ := hp t ht
        have hL0 : u 13 t 2 = nI L := by rw [k13]; exact hL
        have hP0 : ∀ z, z < L → qm_iok (qa_n y) (u 14 t z) (u 15 t z) := fun z hz => by rw [k14, k15]; exact hP z hz
        have hv0 : qm_vok y u := qm_vok_n (fun b g hg => by rw [hI 2 (by decide) (by decide) (by decide) (by decide)]; exact qm_P2_k t (by decide) (by decide) (fun z => hg z.2)) ((hI 3 (by decide) (by decide) (by decide) (by decide)).trans (qm_P2_kk t (by decide) (by decide) (by decide))) (by rw [hI 0 (by decide) (by decide) (by decide) (by decide)]; exact qm_P2_k t (by decide) (by decide) (fun z => absurd z.1 (by decide))) hv
        have hdue : qm_due (qm_P2 y v t) t (qm_P2 y v t 0 0 11) = qm_due u t (u 0 0 11) := by unfold qm_due; rw [hI 13 (by decide) (by decide) (by decide) (by decide), hI 0 (by decide) (by decide) (by decide) (by decide)]
        refine lv_aload_n hx hb d_VF_runDueTasks_33 rfl (lv_at hl 3 rfl) ?_
        refine qa_get (k := 0) (i := 0) (f := 5) (val := .ref (qa_a y 12 0)) E hC Nat.one_pos rfl rfl (by decide) f_VF_48 rfl rfl d_VF_runDueTasks_34 ?_
        refine lv_iload_n hx hb d_VF_runDueTasks_37 rfl (lv_at hl 0 rfl) ?_
        refine qa_ald (k := 12) (i := 0) (j := t) E hC Nat.one_pos rfl rfl rfl rfl rfl ht d_VF_runDueTasks_38 ?_
        refine lv_aload_n hx hb d_VF_runDueTasks_39 rfl (lv_at hl 3 rfl) ?_
        refine qa_get (k := 0) (i := 0) (f := 11) (val := .int (u 0 0 11)) E hC Nat.one_pos rfl rfl (by decide) f_VF_127 rfl rfl d_VF_runDueTasks_40 ?_
        refine qa_pV (k := 13) (i := t) (As := [.int (u 0 0 11)]) E hC (c_TK_isDueIn l y u t (u 0 0 11) ht) ht rfl rfl k_VF_207 (qa_fitR (by decide) (by decide)) rfl hl.1 rfl (Nat.le_of_ble_eq_true rfl) d_VF_runDueTasks_43 ?_
        refine lv_if_eq hx hb d_VF_runDueTasks_46 rfl (fun h46 => ?_) (fun h46 => ?_)
        · refine lv_iinc (v := nI (t + 1)) hx hb d_VF_runDueTasks_78 hl (k := 0) rfl (nI_1 t) (by decide) rfl (fun ls hl => ?_)
          have hl : lv_has ls 4 [(3, .int (nI (t + 1))), (2, .ref (qa_a y 19 0)), (1, .int (qm_lcr (qa_n y) v)), (0, .ref (qa_a y 0 0))] := hl
          refine lv_goto hx hb d_VF_runDueTasks_81 rfl ?_
          exact ih (t + 1) u H locs ls (by omega) hC (fun a h1 h2 h3 h4 => by rw [hI a h1 h2 h3 h4, qm_P2]; unfold qm_Pt; rw [if_neg]; rw [hdue, qb_e0 h46]; decide) (lv_sub hl [0, 1, 2, 3] rfl)
        · refine lv_aload_n hx hb d_VF_runDueTasks_49 rfl (lv_at hl 3 rfl) ?_
          refine lv_iload_n hx hb d_VF_runDueTasks_50 rfl (lv_at hl 0 rfl) ?_
          refine qa_mVv (k := 0) (i := 0) (As := [.int (nI t)]) E hC (c_VF_runOnAllNodes l y u t L ht hL0 hL12 hP0 hv0) Nat.one_pos rfl rfl k_VF_210 (qa_fitR (by decide) (by decide)) rfl hl.1 rfl (Nat.le_of_ble_eq_true rfl) d_VF_runDueTasks_51 (fun u1 H locs hp1 hC => ?_)
          have q1 : ∀ a b g, a ≠ 16 → a ≠ 17 → a ≠ 20 → a ≠ 21 → a ≠ 7 → a ≠ 2 → u1 a b g = u a b g := fun a b g h1 h2 h3 h4 h7 h2b => by rw [hp1 a h1 h2 h3 h4]; unfold qm_Pv; rw [if_neg (fun z => h7 z.1), if_neg (fun z => h2b z.1)]
          have p13 : u1 13 = u 13 := by funext b g; exact q1 13 b g (by decide) (by decide) (by decide) (by decide) (by decide) (by decide)
          have p14 : u1 14 = u 14 := by funext b g; exact q1 14 b g (by decide) (by decide) (by decide) (by decide) (by decide) (by decide)
          have p15 : u1 15 = u 15 := by funext b g; exact q1 15 b g (by decide) (by decide) (by decide) (by decide) (by decide) (by decide)
          have p18 : u1 18 = u 18 := by funext b g; exact q1 18 b g (by decide) (by decide) (by decide) (by decide) (by decide) (by decide)
          have p19 : u1 19 = u 19 := by funext b g; exact q1 19 b g (by decide) (by decide) (by decide) (by decide) (by decide) (by decide)
          have hL1 : u1 13 t 2 = nI L := by rw [p13]; exact hL0
          have hP1 : ∀ z, z < L → qm_iok (qa_n y) (u1 14 t z) (u1 15 t z) := fun z hz => by rw [p14, p15]; exact hP0 z hz
          refine lv_aload_n hx hb d_VF_runDueTasks_54 rfl (lv_at hl 3 rfl) ?_
          refine qa_get (k := 0) (i := 0) (f := 7) (val := .ref (qa_a y 18 0)) E hC Nat.one_pos rfl rfl (by decide) f_VF_59 rfl rfl d_VF_runDueTasks_55 ?_
          refine lv_iload_n hx hb d_VF_runDueTasks_58 rfl (lv_at hl 0 rfl) ?_
          refine lv_aload_n hx hb d_VF_runDueTasks_59 rfl (lv_at hl 3 rfl) ?_
          refine qa_get (k := 0) (i := 0) (f := 6) (val := .ref (qa_a y 16 0)) E hC Nat.one_pos rfl rfl (by decide) f_VF_55 rfl rfl d_VF_runDueTasks_60 ?_
          refine lv_aload_n hx hb d_VF_runDueTasks_63 rfl (lv_at hl 3 rfl) ?_
          refine qa_get (k := 0) (i := 0) (f := 5) (val := .ref (qa_a y 12 0)) E hC Nat.one_pos rfl rfl (by decide) f_VF_48 rfl rfl d_VF_runDueTasks_64 ?_
          refine lv_iload_n hx hb d_VF_runDueTasks_67 rfl (lv_at hl 0 rfl) ?_
          refine qa_ald (k := 12) (i := 0) (j := t) E hC Nat.one_pos rfl rfl rfl rfl rfl ht d_VF_runDueTasks_68 ?_
          refine lv_aload_n hx hb d_VF_runDueTasks_69 rfl (lv_at hl 1 rfl) ?_
          refine lv_aload_n hx hb d_VF_runDueTasks_70 rfl (lv_at hl 3 rfl) ?_
          refine qa_get (k := 0) (i := 0) (f := 7) (val := .ref (qa_a y 18 0)) E hC Nat.one_pos rfl rfl (by decide) f_VF_59 rfl rfl d_VF_runDueTasks_71 ?_
          refine qa_mV (k := 16) (i := 0) (As := [.ref (qa_a y 13 t), .ref (qa_a y 19 0), .ref (qa_a y 18 0)]) E hC (c_SM_resultOf_19_18 l y u1 t L ht hL1 hL12 hP1) Nat.one_pos rfl rfl k_VF_213 (qa_fitR (by decide) (by decide)) rfl hl.1 rfl (Nat.le_of_ble_eq_true rfl) d_VF_runDueTasks_74 (fun r2 u2 H locs hp2 hC => ?_)
          refine qa_ist (k := 18) (i := 0) (j := t) E hC Nat.one_pos rfl rfl rfl ht d_VF_runDueTasks_77 (fun H locs hC => ?_)
          refine lv_iinc (v := nI (t + 1)) hx hb d_VF_runDueTasks_78 hl (k := 0) rfl (nI_1 t) (by decide) rfl (fun ls hl => ?_)
          have hl : lv_has ls 4 [(3, .int (nI (t + 1))), (2, .ref (qa_a y 19 0)), (1, .int (qm_lcr (qa_n y) v)), (0, .ref (qa_a y 0 0))] := hl
          refine lv_goto hx hb d_VF_runDueTasks_81 rfl ?_
          have hgi : qm_gi (qa_n y) (qm_P2 y v t) = u 19 0 := by
            rw [qm_gi_no (fun a ha => by rw [qm_P2_k t (by decide) (by decide) (by decide)]; exact hno a ha), hI 19 (by decide) (by decide) (by decide) (by decide), qm_P2_kk t (by decide) (by decide) (by decide), h19]
          refine ih (t + 1) _ H locs ls (by omega) hC (fun a h1 h2 h3 h4 => ?_) (lv_sub hl [0, 1, 2, 3] rfl)
          funext b g
          rw [qm_P2]
          unfold qm_Pt
          rw [if_pos (by rw [hdue]; exact qb_n0 h46)]
          by_cases c1 : a = 18 ∧ b = 0 ∧ g = t
          · obtain ⟨rfl, rfl, rfl⟩ := c1
            rw [qa_up_s, if_pos ⟨rfl, rfl, rfl⟩, hp2.1, p14, p15, p18, p19, hgi, ← hI 14 (by decide) (by decide) (by decide) (by decide), ← hI 15 (by decide) (by decide) (by decide) (by decide), ← hI 18 (by decide) (by decide) (by decide) (by decide), ← hI 13 (by decide) (by decide) (by decide) (by decide), hL0, qm_ix_n (by omega)]
          · rw [if_neg c1, show qa_up u2 18 0 t r2 a b g = u2 a b g by simp only [qa_up]; rw [if_neg c1], hp2.2 a h1 h2, hp1 a h1 h2 h3 h4, qm_Pv_n hI h1 h2 h3 h4]
    refine lv_aload_n hx hb d_VF_runDueTasks_0 rfl (lv_at hl 0 rfl) ?_
    refine qa_pV (k := 0) (i := 0) (As := []) E hC (c_VF_leastCorrect l y v) Nat.one_pos rfl rfl k_VF_152 (qa_fitR (by decide) (by decide)) rfl hl.1 rfl (Nat.le_of_ble_eq_true rfl) d_VF_runDueTasks_1 ?_
    refine lv_istore_n hx hb d_VF_runDueTasks_4 rfl hl (by decide) rfl (fun ls hl => ?_)
    have hl : lv_has ls 4 [(1, .int (qm_lcr (qa_n y) v)), (0, .ref (qa_a y 0 0))] := hl
    refine lv_iload_n hx hb d_VF_runDueTasks_5 rfl (lv_at hl 0 rfl) ?_
    refine lv_if_ge hx hb d_VF_runDueTasks_6 rfl (fun h9 => absurd h9 (qm_nle e2)) (fun _ => ?_)
    refine lv_aload_n hx hb d_VF_runDueTasks_9 rfl (lv_at hl 1 rfl) ?_
    refine qa_get (k := 0) (i := 0) (f := 8) (val := .ref (qa_a y 19 0)) E hC Nat.one_pos rfl rfl (by decide) f_VF_63 rfl rfl d_VF_runDueTasks_10 ?_
    refine lv_goto hx hb d_VF_runDueTasks_13 rfl ?_
    refine lv_astore_n hx hb d_VF_runDueTasks_25 rfl hl (by decide) rfl (fun ls hl => ?_)
    have hl : lv_has ls 4 [(2, .ref (qa_a y 19 0)), (1, .int (qm_lcr (qa_n y) v)), (0, .ref (qa_a y 0 0))] := hl
    refine lv_iconst (v := 0) hx hb d_VF_runDueTasks_26 (by decide) ?_
    refine lv_istore_n hx hb d_VF_runDueTasks_27 rfl hl (by decide) rfl (fun ls hl => ?_)
    have hl : lv_has ls 4 [(3, .int 0), (2, .ref (qa_a y 19 0)), (1, .int (qm_lcr (qa_n y) v)), (0, .ref (qa_a y 0 0))] := hl
    exact loop 4 0 v _ _ ls (by omega) hC (fun _ _ _ _ _ => rfl) (lv_sub hl [0, 1, 2, 3] rfl)
  · have e2 : 0 ≤ qm_lcr (qa_n y) v := by rw [e1]; exact nI_pos' (by omega)
    have loop : ∀ (d t : Nat) (u : qa_M) (H : Heap) (locs : List Loc) (ls : Array Slot), t + d = 4 → qa_C y u s H locs → (∀ a, a ≠ 16 → a ≠ 17 → a ≠ 20 → a ≠ 21 → u a = qm_P2 y v t a) → lv_has ls 4 [(3, .int (nI t)), (2, .ref (qa_a y 5 f)), (1, .int (nI f)), (0, .ref (qa_a y 0 0))] → W p l e (qa_R 4) s m [.ref (qa_a y 0 0)].toArray below meth c H locs 0 0 (MQ below (va_Qv (fun u => ∀ a, a ≠ 16 → a ≠ 17 → a ≠ 20 → a ≠ 21 → u a = qm_P2 y v 4 a) (fun u t => qa_W y u t) (qa_A y)) [.ref (qa_a y 0 0)].toArray s 0 0 (qa_A y)) (F0 m 28 ls []) := by
      intro d
      induction d with
      | zero =>
        intro t u H locs ls hkd hC hI hl
        obtain rfl : 4 = t := by omega
        refine lv_iload_n hx hb d_VF_runDueTasks_28 rfl (lv_at hl 0 rfl) ?_
        refine lv_iconst (v := 4) hx hb d_VF_runDueTasks_29 (by decide) ?_
        refine lv_icmp_ge hx hb d_VF_runDueTasks_30 rfl (fun _ => ?_) (fun h9 => absurd (show (4 : Int32) ≤ nI 4 by decide) h9)
        exact qa_mvret E hC hr hlocks hI d_VF_runDueTasks_84
      | succ d ih =>
        intro t u H locs ls hkd hC hI hl
        have ht : t < 4 := by omega
        refine lv_iload_n hx hb d_VF_runDueTasks_28 rfl (lv_at hl 0 rfl) ?_
        refine lv_iconst (v := 4) hx hb d_VF_runDueTasks_29 (by decide) ?_
        refine lv_icmp_ge hx hb d_VF_runDueTasks_30 rfl (fun h9 => absurd h9 (show ¬ (4 : Int32) ≤ nI t from nI_ge (b := 4) ht (by decide))) (fun _ => ?_)
        have k13 : u 13 = v 13 := (hI 13 (by decide) (by decide) (by decide) (by decide)).trans (qm_P2_kk t (by decide) (by decide) (by decide))
        have k14 : u 14 = v 14 := (hI 14 (by decide) (by decide) (by decide) (by decide)).trans (qm_P2_kk t (by decide) (by decide) (by decide))
        have k15 : u 15 = v 15 := (hI 15 (by decide) (by decide) (by decide) (by decide)).trans (qm_P2_kk t (by decide) (by decide) (by decide))
        obtain ⟨L, hL12, hL, hP⟩ := hp t ht
        have hL0 : u 13 t 2 = nI L := by rw [k13]; exact hL
        have hP0 : ∀ z, z < L → qm_iok (qa_n y) (u 14 t z) (u 15 t z) := fun z hz => by rw [k14, k15]; exact hP z hz
        have hv0 : qm_vok y u := qm_vok_n (fun b g hg => by rw [hI 2 (by decide) (by decide) (by decide) (by decide)]; exact qm_P2_k t (by decide) (by decide) (fun z => hg z.2)) ((hI 3 (by decide) (by decide) (by decide) (by decide)).trans (qm_P2_kk t (by decide) (by decide) (by decide))) (by rw [hI 0 (by decide) (by decide) (by decide) (by decide)]; exact qm_P2_k t (by decide) (by decide) (fun z => absurd z.1 (by decide))) hv
        have hdue : qm_due (qm_P2 y v t) t (qm_P2 y v t 0 0 11) = qm_due u t (u 0 0 11) := by unfold qm_due; rw [hI 13 (by decide) (by decide) (by decide) (by decide), hI 0 (by decide) (by decide) (by decide) (by decide)]
        refine lv_aload_n hx hb d_VF_runDueTasks_33 rfl (lv_at hl 3 rfl) ?_
        refine qa_get (k := 0) (i := 0) (f := 5) (val := .ref (qa_a y 12 0)) E hC Nat.one_pos rfl rfl (by decide) f_VF_48 rfl rfl d_VF_runDueTasks_34 ?_
        refine lv_iload_n hx hb d_VF_runDueTasks_37 rfl (lv_at hl 0 rfl) ?_
        refine qa_ald (k := 12) (i := 0) (j := t) E hC Nat.one_pos rfl rfl rfl rfl rfl ht d_VF_runDueTasks_38 ?_
        refine lv_aload_n hx hb d_VF_runDueTasks_39 rfl (lv_at hl 3 rfl) ?_
        refine qa_get (k := 0) (i := 0) (f := 11) (val := .int (u 0 0 11)) E hC Nat.one_pos rfl rfl (by decide) f_VF_127 rfl rfl d_VF_runDueTasks_40 ?_
        refine qa_pV (k := 13) (i := t) (As := [.int (u 0 0 11)]) E hC (c_TK_isDueIn l y u t (u 0 0 11) ht) ht rfl rfl k_VF_207 (qa_fitR (by decide) (by decide)) rfl hl.1 rfl (Nat.le_of_ble_eq_true rfl) d_VF_runDueTasks_43 ?_
        refine lv_if_eq hx hb d_VF_runDueTasks_46 rfl (fun h46 => ?_) (fun h46 => ?_)
        · refine lv_iinc (v := nI (t + 1)) hx hb d_VF_runDueTasks_78 hl (k := 0) rfl (nI_1 t) (by decide) rfl (fun ls hl => ?_)
          have hl : lv_has ls 4 [(3, .int (nI (t + 1))), (2, .ref (qa_a y 5 f)), (1, .int (nI f)), (0, .ref (qa_a y 0 0))] := hl
          refine lv_goto hx hb d_VF_runDueTasks_81 rfl ?_
          exact ih (t + 1) u H locs ls (by omega) hC (fun a h1 h2 h3 h4 => by rw [hI a h1 h2 h3 h4, qm_P2]; unfold qm_Pt; rw [if_neg]; rw [hdue, qb_e0 h46]; decide) (lv_sub hl [0, 1, 2, 3] rfl)
        · refine lv_aload_n hx hb d_VF_runDueTasks_49 rfl (lv_at hl 3 rfl) ?_
          refine lv_iload_n hx hb d_VF_runDueTasks_50 rfl (lv_at hl 0 rfl) ?_
          refine qa_mVv (k := 0) (i := 0) (As := [.int (nI t)]) E hC (c_VF_runOnAllNodes l y u t L ht hL0 hL12 hP0 hv0) Nat.one_pos rfl rfl k_VF_210 (qa_fitR (by decide) (by decide)) rfl hl.1 rfl (Nat.le_of_ble_eq_true rfl) d_VF_runDueTasks_51 (fun u3 H locs hp3 hC => ?_)
          have q1 : ∀ a b g, a ≠ 16 → a ≠ 17 → a ≠ 20 → a ≠ 21 → a ≠ 7 → a ≠ 2 → u3 a b g = u a b g := fun a b g h1 h2 h3 h4 h7 h2b => by rw [hp3 a h1 h2 h3 h4]; unfold qm_Pv; rw [if_neg (fun z => h7 z.1), if_neg (fun z => h2b z.1)]
          have p13 : u3 13 = u 13 := by funext b g; exact q1 13 b g (by decide) (by decide) (by decide) (by decide) (by decide) (by decide)
          have p14 : u3 14 = u 14 := by funext b g; exact q1 14 b g (by decide) (by decide) (by decide) (by decide) (by decide) (by decide)
          have p15 : u3 15 = u 15 := by funext b g; exact q1 15 b g (by decide) (by decide) (by decide) (by decide) (by decide) (by decide)
          have p18 : u3 18 = u 18 := by funext b g; exact q1 18 b g (by decide) (by decide) (by decide) (by decide) (by decide) (by decide)
          have p5 : u3 5 = u 5 := by funext b g; exact q1 5 b g (by decide) (by decide) (by decide) (by decide) (by decide) (by decide)
          have hL1 : u3 13 t 2 = nI L := by rw [p13]; exact hL0
          have hP1 : ∀ z, z < L → qm_iok (qa_n y) (u3 14 t z) (u3 15 t z) := fun z hz => by rw [p14, p15]; exact hP0 z hz
          refine lv_aload_n hx hb d_VF_runDueTasks_54 rfl (lv_at hl 3 rfl) ?_
          refine qa_get (k := 0) (i := 0) (f := 7) (val := .ref (qa_a y 18 0)) E hC Nat.one_pos rfl rfl (by decide) f_VF_59 rfl rfl d_VF_runDueTasks_55 ?_
          refine lv_iload_n hx hb d_VF_runDueTasks_58 rfl (lv_at hl 0 rfl) ?_
          refine lv_aload_n hx hb d_VF_runDueTasks_59 rfl (lv_at hl 3 rfl) ?_
          refine qa_get (k := 0) (i := 0) (f := 6) (val := .ref (qa_a y 16 0)) E hC Nat.one_pos rfl rfl (by decide) f_VF_55 rfl rfl d_VF_runDueTasks_60 ?_
          refine lv_aload_n hx hb d_VF_runDueTasks_63 rfl (lv_at hl 3 rfl) ?_
          refine qa_get (k := 0) (i := 0) (f := 5) (val := .ref (qa_a y 12 0)) E hC Nat.one_pos rfl rfl (by decide) f_VF_48 rfl rfl d_VF_runDueTasks_64 ?_
          refine lv_iload_n hx hb d_VF_runDueTasks_67 rfl (lv_at hl 0 rfl) ?_
          refine qa_ald (k := 12) (i := 0) (j := t) E hC Nat.one_pos rfl rfl rfl rfl rfl ht d_VF_runDueTasks_68 ?_
          refine lv_aload_n hx hb d_VF_runDueTasks_69 rfl (lv_at hl 1 rfl) ?_
          refine lv_aload_n hx hb d_VF_runDueTasks_70 rfl (lv_at hl 3 rfl) ?_
          refine qa_get (k := 0) (i := 0) (f := 7) (val := .ref (qa_a y 18 0)) E hC Nat.one_pos rfl rfl (by decide) f_VF_59 rfl rfl d_VF_runDueTasks_71 ?_
          refine qa_mV (k := 16) (i := 0) (As := [.ref (qa_a y 13 t), .ref (qa_a y 5 f), .ref (qa_a y 18 0)]) E hC (c_SM_resultOf_5_18 l y u3 t L f ht hL1 hL12 hP1 hf) Nat.one_pos rfl rfl k_VF_213 (qa_fitR (by decide) (by decide)) rfl hl.1 rfl (Nat.le_of_ble_eq_true rfl) d_VF_runDueTasks_74 (fun r4 u4 H locs hp4 hC => ?_)
          refine qa_ist (k := 18) (i := 0) (j := t) E hC Nat.one_pos rfl rfl rfl ht d_VF_runDueTasks_77 (fun H locs hC => ?_)
          refine lv_iinc (v := nI (t + 1)) hx hb d_VF_runDueTasks_78 hl (k := 0) rfl (nI_1 t) (by decide) rfl (fun ls hl => ?_)
          have hl : lv_has ls 4 [(3, .int (nI (t + 1))), (2, .ref (qa_a y 5 f)), (1, .int (nI f)), (0, .ref (qa_a y 0 0))] := hl
          refine lv_goto hx hb d_VF_runDueTasks_81 rfl ?_
          have hgi : qm_gi (qa_n y) (qm_P2 y v t) = u 5 f := by
            rw [qm_gi_at hf (by rw [qm_P2_k t (by decide) (by decide) (by decide)]; exact hf0) (fun a ha => by rw [qm_P2_k t (by decide) (by decide) (by decide)]; exact hbef a ha), hI 5 (by decide) (by decide) (by decide) (by decide)]
          refine ih (t + 1) _ H locs ls (by omega) hC (fun a h1 h2 h3 h4 => ?_) (lv_sub hl [0, 1, 2, 3] rfl)
          funext b g
          rw [qm_P2]
          unfold qm_Pt
          rw [if_pos (by rw [hdue]; exact qb_n0 h46)]
          by_cases c1 : a = 18 ∧ b = 0 ∧ g = t
          · obtain ⟨rfl, rfl, rfl⟩ := c1
            rw [qa_up_s, if_pos ⟨rfl, rfl, rfl⟩, hp4.1, p14, p15, p18, p5, hgi, ← hI 14 (by decide) (by decide) (by decide) (by decide), ← hI 15 (by decide) (by decide) (by decide) (by decide), ← hI 18 (by decide) (by decide) (by decide) (by decide), ← hI 13 (by decide) (by decide) (by decide) (by decide), hL0, qm_ix_n (by omega)]
          · rw [if_neg c1, show qa_up u4 18 0 t r4 a b g = u4 a b g by simp only [qa_up]; rw [if_neg c1], hp4.2 a h1 h2, hp3 a h1 h2 h3 h4, qm_Pv_n hI h1 h2 h3 h4]
    refine lv_aload_n hx hb d_VF_runDueTasks_0 rfl (lv_at hl 0 rfl) ?_
    refine qa_pV (k := 0) (i := 0) (As := []) E hC (c_VF_leastCorrect l y v) Nat.one_pos rfl rfl k_VF_152 (qa_fitR (by decide) (by decide)) rfl hl.1 rfl (Nat.le_of_ble_eq_true rfl) d_VF_runDueTasks_1 ?_
    refine lv_istore_n hx hb d_VF_runDueTasks_4 rfl hl (by decide) rfl (fun ls hl => ?_)
    have hl : lv_has ls 4 [(1, .int (qm_lcr (qa_n y) v)), (0, .ref (qa_a y 0 0))] := hl
    refine lv_iload_n hx hb d_VF_runDueTasks_5 rfl (lv_at hl 0 rfl) ?_
    refine lv_if_ge hx hb d_VF_runDueTasks_6 rfl (fun _ => ?_) (fun h9 => absurd e2 h9)
    have hl : lv_has ls 4 [(1, .int (nI f)), (0, .ref (qa_a y 0 0))] := by rw [e1] at hl; exact hl
    refine lv_aload_n hx hb d_VF_runDueTasks_16 rfl (lv_at hl 1 rfl) ?_
    refine qa_get (k := 0) (i := 0) (f := 3) (val := .ref (qa_a y 1 0)) E hC Nat.one_pos rfl rfl (by decide) f_VF_31 rfl rfl d_VF_runDueTasks_17 ?_
    refine lv_iload_n hx hb d_VF_runDueTasks_20 rfl (lv_at hl 0 rfl) ?_
    refine qa_ald (k := 1) (i := 0) (j := f) E hC Nat.one_pos rfl rfl rfl rfl rfl hf d_VF_runDueTasks_21 ?_
    refine qa_get (k := 2) (i := f) (f := 3) (val := .ref (qa_a y 5 f)) E hC hf rfl rfl (by decide) f_VF_133 rfl rfl d_VF_runDueTasks_22 ?_
    refine lv_astore_n hx hb d_VF_runDueTasks_25 rfl hl (by decide) rfl (fun ls hl => ?_)
    have hl : lv_has ls 4 [(2, .ref (qa_a y 5 f)), (1, .int (nI f)), (0, .ref (qa_a y 0 0))] := hl
    refine lv_iconst (v := 0) hx hb d_VF_runDueTasks_26 (by decide) ?_
    refine lv_istore_n hx hb d_VF_runDueTasks_27 rfl hl (by decide) rfl (fun ls hl => ?_)
    have hl : lv_has ls 4 [(3, .int 0), (2, .ref (qa_a y 5 f)), (1, .int (nI f)), (0, .ref (qa_a y 0 0))] := hl
    exact loop 4 0 v _ _ ls (by omega) hC (fun _ _ _ _ _ => rfl) (lv_sub hl [0, 1, 2, 3] rfl)
