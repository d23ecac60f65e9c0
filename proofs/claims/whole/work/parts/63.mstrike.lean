set_option maxHeartbeats 4000000 in
set_option maxRecDepth 100000 in
theorem c_MD_strike (l : Launch) (y : qa_L) (v : qa_M) (i : Nat) (hi : i < qa_n y) (w : qa_M) (hR : qm_RM (qa_n y) w v) (hM : qm_mok y w) : qa_Mv l y_MD_strike b_MD_strike 7 3 [.ref (qa_a y 22 0), .int (nI i)] y v (fun u => ∀ c b f, u c b f = qa_up (qa_up v 22 0 4 (v 22 0 4 + qm_bc (qm_cv y w i (qa_n y)))) 28 0 i (w 2 i 11 &&& (qm_cv y w i (qa_n y) ^^^ (-1))) c b f) := by
  refine qa_ofMv (plainFor_of_name (by decide)) (Nat.le_of_ble_eq_true rfl) ?_
  intro p e s m below meth c ls E hr hlocks hC hl
  have E : qa_E p m c b_MD_strike 7 s _ "VotedFramesModel" y := E
  have F := E.1
  have hx := F.1
  have hb := F.2.1
  have hown : s.vm.findClass "VotedFramesModel" = some m.cls := F.2.2.2.1
  have hts := F.2.2.2.2
  have hn4 : 4 ≤ qa_n y := E.2.1.2.2.1
  have hn7 : qa_n y ≤ 7 := E.2.1.2.2.2.1
  have hl : lv_has ls 7 [(0, .ref (qa_a y 22 0)), (1, .int (nI i))] := hl
  have hm2 : qa_m y ≤ 2 := by have := E.2.1.2.2.2.2.1; omega
  obtain ⟨hB, hL2⟩ := qm_bn_ok hn7 hm2 (hM i hi).1
  have hmk := qm_mk_of hM hR
  have hbv : qm_bear (qa_m y) (v 28 0 i) = nI (qm_bn y w i) := by rw [qr_msk hR hi]; exact hB
  have loopJ : ∀ (d j : Nat) (u : qa_M) (H : Heap) (locs : List Loc) (ls : Array Slot), j + d = qa_n y → qa_C y u s H locs → (∀ c b f, u c b f = qa_up v 22 0 4 (v 22 0 4 + qm_bc (qm_cv y w i j)) c b f) → lv_has ls 7 [(4, .int (nI j)), (3, .int (qm_cv y w i j)), (2, .int (nI (qm_bn y w i))), (0, .ref (qa_a y 22 0)), (1, .int (nI i))] → W p l e (qa_R 3) s m [.ref (qa_a y 22 0), .int (nI i)].toArray below meth c H locs 0 0 (MQ below (va_Qv (fun u => ∀ c b f, u c b f = qa_up (qa_up v 22 0 4 (v 22 0 4 + qm_bc (qm_cv y w i (qa_n y)))) 28 0 i (w 2 i 11 &&& (qm_cv y w i (qa_n y) ^^^ (-1))) c b f) (fun u t => qa_W y u t) (qa_A y)) [.ref (qa_a y 22 0), .int (nI i)].toArray s 0 0 (qa_A y)) (F0 m 11 ls []) := by
    intro d
    induction d with
    | zero =>
      intro j u H locs ls hkd hC hI hl
      obtain rfl : qa_n y = j := by omega
      refine lv_iload hx hb d_MD_strike_11 (lv_at hl 0 rfl) ?_
      refine lv_aload_n hx hb d_MD_strike_13 rfl (lv_at hl 3 rfl) ?_
      refine qa_get (k := 22) (i := 0) (f := 0) (val := .int (nI (qa_n y))) E hC Nat.one_pos rfl rfl (by decide) f_MD_73 rfl rfl d_MD_strike_14 ?_
      refine lv_icmp_ge hx hb d_MD_strike_17 rfl (fun _ => ?_) (fun h9 => absurd (nI_le (Nat.le_refl _) (by omega)) h9)
      refine lv_aload_n hx hb d_MD_strike_127 rfl (lv_at hl 3 rfl) ?_
      refine qa_get (k := 22) (i := 0) (f := 10) (val := .ref (qa_a y 28 0)) E hC Nat.one_pos rfl rfl (by decide) f_MD_25 rfl rfl d_MD_strike_128 ?_
      refine lv_iload_n hx hb d_MD_strike_131 rfl (lv_at hl 4 rfl) ?_
      refine lv_aload_n hx hb d_MD_strike_132 rfl (lv_at hl 3 rfl) ?_
      refine qa_get (k := 22) (i := 0) (f := 10) (val := .ref (qa_a y 28 0)) E hC Nat.one_pos rfl rfl (by decide) f_MD_25 rfl rfl d_MD_strike_133 ?_
      refine lv_iload_n hx hb d_MD_strike_136 rfl (lv_at hl 4 rfl) ?_
      refine qa_ild (k := 28) (i := 0) (j := i) E hC Nat.one_pos rfl rfl rfl (show i < 7 by omega) d_MD_strike_137 ?_
      refine lv_iload_n hx hb d_MD_strike_138 rfl (lv_at hl 1 rfl) ?_
      refine lv_iconst (v := -1) hx hb d_MD_strike_139 (by decide) ?_
      refine lv_ixor hx hb d_MD_strike_140 ?_
      refine lv_iand hx hb d_MD_strike_141 ?_
      refine qa_ist (k := 28) (i := 0) (j := i) E hC Nat.one_pos rfl rfl rfl (show i < 7 by omega) d_MD_strike_142 (fun H locs hC => ?_)
      exact qa_mvret E hC hr hlocks (fun c b f => by
          have q28 : u 28 0 i = w 2 i 11 := by rw [hI, qa_up_k (by decide)]; exact qr_msk hR hi
          rw [q28]
          by_cases z : c = 28 ∧ b = 0 ∧ f = i
          · obtain ⟨rfl, rfl, rfl⟩ := z
            rw [qa_up_s, qa_up_s]
          · rw [qa_up_x z, qa_up_x z]; exact hI c b f) d_MD_strike_143
    | succ d ihJ =>
      intro j u H locs ls hkd hC hI hl
      have hj : j < qa_n y := by omega
      have q28 : u 28 0 i = w 2 i 11 := by rw [hI, qa_up_k (by decide)]; exact qr_msk hR hi
      have q34 : ∀ k, k < qa_n y → u 34 0 (7 * i + k) = w 6 i k := fun k hk => by rw [hI, qa_up_k (by decide)]; exact qr_chg hR hi hk
      refine lv_iload hx hb d_MD_strike_11 (lv_at hl 0 rfl) ?_
      refine lv_aload_n hx hb d_MD_strike_13 rfl (lv_at hl 3 rfl) ?_
      refine qa_get (k := 22) (i := 0) (f := 0) (val := .int (nI (qa_n y))) E hC Nat.one_pos rfl rfl (by decide) f_MD_73 rfl rfl d_MD_strike_14 ?_
      refine lv_icmp_ge hx hb d_MD_strike_17 rfl (fun h9 => absurd h9 (nI_ge hj (by omega))) (fun _ => ?_)
      refine lv_iconst (v := 0) hx hb d_MD_strike_20 (by decide) ?_
      refine lv_istore hx hb d_MD_strike_21 hl (by decide) rfl (fun ls hl => ?_)
      have hl : lv_has ls 7 [(5, .int 0), (4, .int (nI j)), (3, .int (qm_cv y w i j)), (2, .int (nI (qm_bn y w i))), (0, .ref (qa_a y 22 0)), (1, .int (nI i))] := hl
      refine lv_iconst (v := 0) hx hb d_MD_strike_23 (by decide) ?_
      refine lv_istore hx hb d_MD_strike_24 hl (by decide) rfl (fun ls hl => ?_)
      have hl : lv_has ls 7 [(6, .int 0), (5, .int 0), (4, .int (nI j)), (3, .int (qm_cv y w i j)), (2, .int (nI (qm_bn y w i))), (0, .ref (qa_a y 22 0)), (1, .int (nI i))] := hl
      have loopK : ∀ (d k : Nat) (ls : Array Slot), k + d = qa_n y → lv_has ls 7 [(6, .int (nI k)), (5, .int (nI (qm_acc w i j k))), (4, .int (nI j)), (3, .int (qm_cv y w i j)), (2, .int (nI (qm_bn y w i))), (0, .ref (qa_a y 22 0)), (1, .int (nI i))] → W p l e (qa_R 3) s m [.ref (qa_a y 22 0), .int (nI i)].toArray below meth c H locs 0 0 (MQ below (va_Qv (fun u => ∀ c b f, u c b f = qa_up (qa_up v 22 0 4 (v 22 0 4 + qm_bc (qm_cv y w i (qa_n y)))) 28 0 i (w 2 i 11 &&& (qm_cv y w i (qa_n y) ^^^ (-1))) c b f) (fun u t => qa_W y u t) (qa_A y)) [.ref (qa_a y 22 0), .int (nI i)].toArray s 0 0 (qa_A y)) (F0 m 26 ls []) := by
        intro d
        induction d with
        | zero =>
          intro k ls hkd hl
          obtain rfl : qa_n y = k := by omega
          refine lv_iload hx hb d_MD_strike_26 (lv_at hl 0 rfl) ?_
          refine lv_aload_n hx hb d_MD_strike_28 rfl (lv_at hl 5 rfl) ?_
          refine qa_get (k := 22) (i := 0) (f := 0) (val := .int (nI (qa_n y))) E hC Nat.one_pos rfl rfl (by decide) f_MD_73 rfl rfl d_MD_strike_29 ?_
          refine lv_icmp_ge hx hb d_MD_strike_32 rfl (fun _ => ?_) (fun h9 => absurd (nI_le (Nat.le_refl _) (by omega)) h9)
          refine lv_iload hx hb d_MD_strike_82 (lv_at hl 2 rfl) ?_
          refine lv_iload_n hx hb d_MD_strike_84 rfl (lv_at hl 6 rfl) ?_
          refine lv_icmp_eq hx hb d_MD_strike_85 rfl (fun h85 => ?_) (fun h85 => ?_)
          · refine lv_iinc (v := nI (j + 1)) hx hb d_MD_strike_121 hl (k := 2) rfl (nI_1 j) (by decide) rfl (fun ls hl => ?_)
            have hl : lv_has ls 7 [(4, .int (nI (j + 1))), (6, .int (nI (qa_n y))), (5, .int (nI (qm_acc w i j (qa_n y)))), (3, .int (qm_cv y w i j)), (2, .int (nI (qm_bn y w i))), (0, .ref (qa_a y 22 0)), (1, .int (nI i))] := hl
            refine lv_goto hx hb d_MD_strike_124 rfl ?_
            have e5 : qm_cv y w i (j + 1) = qm_cv y w i j := if_neg (fun z => z.1 ((nI_eq (by omega) (by omega)).mp h85))
            refine ihJ (j + 1) u H locs ls (by omega) hC (fun c b f => by rw [e5]; exact hI c b f) ?_
            rw [e5]
            exact lv_sub hl [0, 3, 4, 5, 6] rfl
          · refine lv_aload_n hx hb d_MD_strike_88 rfl (lv_at hl 5 rfl) ?_
            refine lv_iload_n hx hb d_MD_strike_89 rfl (lv_at hl 6 rfl) ?_
            refine lv_iload hx hb d_MD_strike_90 (lv_at hl 2 rfl) ?_
            refine qa_pV (k := 22) (i := 0) (As := [.int (nI i), .int (nI j)]) E hC (c_MD_member l y u i (nI j) hi) Nat.one_pos rfl rfl k_MD_90 (qa_fitR (by decide) (by decide)) rfl hl.1 rfl (Nat.le_of_ble_eq_true rfl) d_MD_strike_92 ?_
            refine lv_if_eq hx hb d_MD_strike_95 rfl (fun h95 => ?_) (fun h95 => ?_)
            · refine lv_iinc (v := nI (j + 1)) hx hb d_MD_strike_121 hl (k := 2) rfl (nI_1 j) (by decide) rfl (fun ls hl => ?_)
              have hl : lv_has ls 7 [(4, .int (nI (j + 1))), (6, .int (nI (qa_n y))), (5, .int (nI (qm_acc w i j (qa_n y)))), (3, .int (qm_cv y w i j)), (2, .int (nI (qm_bn y w i))), (0, .ref (qa_a y 22 0)), (1, .int (nI i))] := hl
              refine lv_goto hx hb d_MD_strike_124 rfl ?_
              have e5 : qm_cv y w i (j + 1) = qm_cv y w i j := if_neg (fun z => by have z2 := z.2.1; rw [← q28, qb_e0 h95] at z2; cases z2)
              refine ihJ (j + 1) u H locs ls (by omega) hC (fun c b f => by rw [e5]; exact hI c b f) ?_
              rw [e5]
              exact lv_sub hl [0, 3, 4, 5, 6] rfl
            · refine lv_iload hx hb d_MD_strike_98 (lv_at hl 1 rfl) ?_
              refine lv_iload_n hx hb d_MD_strike_100 rfl (lv_at hl 4 rfl) ?_
              refine lv_icmp_le hx hb d_MD_strike_101 rfl (fun h101 => ?_) (fun h101 => ?_)
              · refine lv_iinc (v := nI (j + 1)) hx hb d_MD_strike_121 hl (k := 2) rfl (nI_1 j) (by decide) rfl (fun ls hl => ?_)
                have hl : lv_has ls 7 [(4, .int (nI (j + 1))), (6, .int (nI (qa_n y))), (5, .int (nI (qm_acc w i j (qa_n y)))), (3, .int (qm_cv y w i j)), (2, .int (nI (qm_bn y w i))), (0, .ref (qa_a y 22 0)), (1, .int (nI i))] := hl
                refine lv_goto hx hb d_MD_strike_124 rfl ?_
                have e5 : qm_cv y w i (j + 1) = qm_cv y w i j := if_neg (fun z => z.2.2 (by rw [hB, nI_1, nI_ltI (by have := qm_acc_le w i j (qa_n y); omega) (by omega)]; rw [nI_leI (by have := qm_acc_le w i j (qa_n y); omega) (by omega)] at h101; omega))
                refine ihJ (j + 1) u H locs ls (by omega) hC (fun c b f => by rw [e5]; exact hI c b f) ?_
                rw [e5]
                exact lv_sub hl [0, 3, 4, 5, 6] rfl
              · refine lv_iload_n hx hb d_MD_strike_104 rfl (lv_at hl 3 rfl) ?_
                refine lv_iconst (v := 1) hx hb d_MD_strike_105 (by decide) ?_
                refine lv_iload hx hb d_MD_strike_106 (lv_at hl 2 rfl) ?_
                refine lv_ishl hx hb d_MD_strike_108 ?_
                refine lv_ior hx hb d_MD_strike_109 ?_
                refine lv_istore_n hx hb d_MD_strike_110 rfl hl (by decide) rfl (fun ls hl => ?_)
                have hl : lv_has ls 7 [(3, .int ((qm_cv y w i j) ||| ((1 : Int32) <<< ((nI j) &&& 31)))), (6, .int (nI (qa_n y))), (5, .int (nI (qm_acc w i j (qa_n y)))), (4, .int (nI j)), (2, .int (nI (qm_bn y w i))), (0, .ref (qa_a y 22 0)), (1, .int (nI i))] := hl
                refine lv_aload_n hx hb d_MD_strike_111 rfl (lv_at hl 5 rfl) ?_
                refine lv_dup hx hb d_MD_strike_112 rfl ?_
                refine qa_get (k := 22) (i := 0) (f := 4) (val := .int (u 22 0 4)) E hC Nat.one_pos rfl rfl (by decide) f_MD_155 rfl rfl d_MD_strike_113 ?_
                refine lv_iconst (v := 1) hx hb d_MD_strike_116 (by decide) ?_
                refine lv_iadd hx hb d_MD_strike_117 ?_
                refine qa_put (k := 22) (i := 0) (f := 4) E hC Nat.one_pos rfl rfl (by decide) f_MD_155 rfl rfl rfl rfl d_MD_strike_118 (fun H locs hC => ?_)
                refine lv_iinc (v := nI (j + 1)) hx hb d_MD_strike_121 hl (k := 3) rfl (nI_1 j) (by decide) rfl (fun ls hl => ?_)
                have hl : lv_has ls 7 [(4, .int (nI (j + 1))), (3, .int ((qm_cv y w i j) ||| ((1 : Int32) <<< ((nI j) &&& 31)))), (6, .int (nI (qa_n y))), (5, .int (nI (qm_acc w i j (qa_n y)))), (2, .int (nI (qm_bn y w i))), (0, .ref (qa_a y 22 0)), (1, .int (nI i))] := hl
                refine lv_goto hx hb d_MD_strike_124 rfl ?_
                have e5 : qm_cv y w i (j + 1) = qm_ad (qm_cv y w i j) j := if_pos ⟨fun z => h85 (by rw [z]), by rw [← q28]; exact qb_n0 h95, fun z => h101 (by rw [hB, nI_1, nI_ltI (by have := qm_acc_le w i j (qa_n y); omega) (by omega)] at z; rw [nI_leI (by have := qm_acc_le w i j (qa_n y); omega) (by omega)]; omega)⟩
                refine ihJ (j + 1) _ H locs ls (by omega) hC (fun c b f => ?_) ?_
                · rw [e5, qm_cv_bc (by omega)]
                  by_cases z : c = 22 ∧ b = 0 ∧ f = 4
                  · obtain ⟨rfl, rfl, rfl⟩ := z
                    rw [qa_up_s, qa_up_s, hI, qa_up_s, Int32.add_assoc]
                  · rw [qa_up_x z, qa_up_x z, hI, qa_up_x z]
                · rw [e5]
                  exact lv_sub hl [0, 1, 4, 5, 6] rfl
        | succ d ihK =>
          intro k ls hkd hl
          have hk : k < qa_n y := by omega
          refine lv_iload hx hb d_MD_strike_26 (lv_at hl 0 rfl) ?_
          refine lv_aload_n hx hb d_MD_strike_28 rfl (lv_at hl 5 rfl) ?_
          refine qa_get (k := 22) (i := 0) (f := 0) (val := .int (nI (qa_n y))) E hC Nat.one_pos rfl rfl (by decide) f_MD_73 rfl rfl d_MD_strike_29 ?_
          refine lv_icmp_ge hx hb d_MD_strike_32 rfl (fun h9 => absurd h9 (nI_ge hk (by omega))) (fun _ => ?_)
          refine lv_iload hx hb d_MD_strike_35 (lv_at hl 0 rfl) ?_
          refine lv_iload hx hb d_MD_strike_37 (lv_at hl 2 rfl) ?_
          refine lv_icmp_eq hx hb d_MD_strike_39 rfl (fun h39 => ?_) (fun h39 => ?_)
          · refine lv_iinc (v := nI (k + 1)) hx hb d_MD_strike_76 hl (k := 0) rfl (nI_1 k) (by decide) rfl (fun ls hl => ?_)
            have hl : lv_has ls 7 [(6, .int (nI (k + 1))), (5, .int (nI (qm_acc w i j k))), (4, .int (nI j)), (3, .int (qm_cv y w i j)), (2, .int (nI (qm_bn y w i))), (0, .ref (qa_a y 22 0)), (1, .int (nI i))] := hl
            refine lv_goto hx hb d_MD_strike_79 rfl ?_
            have e5 : qm_acc w i j (k + 1) = qm_acc w i j k := if_neg (fun z => z.1 ((nI_eq (by omega) (by omega)).mp h39))
            refine ihK (k + 1) ls (by omega) ?_
            rw [e5]
            exact lv_sub hl [0, 1, 2, 3, 4, 5, 6] rfl
          · refine lv_aload_n hx hb d_MD_strike_42 rfl (lv_at hl 5 rfl) ?_
            refine lv_iload_n hx hb d_MD_strike_43 rfl (lv_at hl 6 rfl) ?_
            refine lv_iload hx hb d_MD_strike_44 (lv_at hl 0 rfl) ?_
            refine qa_pV (k := 22) (i := 0) (As := [.int (nI i), .int (nI k)]) E hC (c_MD_member l y u i (nI k) hi) Nat.one_pos rfl rfl k_MD_90 (qa_fitR (by decide) (by decide)) rfl hl.1 rfl (Nat.le_of_ble_eq_true rfl) d_MD_strike_46 ?_
            refine lv_if_eq hx hb d_MD_strike_49 rfl (fun h49 => ?_) (fun h49 => ?_)
            · refine lv_iinc (v := nI (k + 1)) hx hb d_MD_strike_76 hl (k := 0) rfl (nI_1 k) (by decide) rfl (fun ls hl => ?_)
              have hl : lv_has ls 7 [(6, .int (nI (k + 1))), (5, .int (nI (qm_acc w i j k))), (4, .int (nI j)), (3, .int (qm_cv y w i j)), (2, .int (nI (qm_bn y w i))), (0, .ref (qa_a y 22 0)), (1, .int (nI i))] := hl
              refine lv_goto hx hb d_MD_strike_79 rfl ?_
              have e5 : qm_acc w i j (k + 1) = qm_acc w i j k := if_neg (fun z => by have z2 := z.2.1; rw [← q28, qb_e0 h49] at z2; cases z2)
              refine ihK (k + 1) ls (by omega) ?_
              rw [e5]
              exact lv_sub hl [0, 1, 2, 3, 4, 5, 6] rfl
            · refine lv_aload_n hx hb d_MD_strike_52 rfl (lv_at hl 5 rfl) ?_
              refine qa_get (k := 22) (i := 0) (f := 16) (val := .ref (qa_a y 34 0)) E hC Nat.one_pos rfl rfl (by decide) f_MD_43 rfl rfl d_MD_strike_53 ?_
              refine lv_bipush (v := 7) hx hb d_MD_strike_56 (by decide) ?_
              refine lv_iload_n hx hb d_MD_strike_58 rfl (lv_at hl 6 rfl) ?_
              refine lv_imul hx hb d_MD_strike_59 ?_
              refine lv_iload hx hb d_MD_strike_60 (lv_at hl 0 rfl) ?_
              refine lv_iadd hx hb d_MD_strike_62 ?_
              refine qa_ild (k := 34) (i := 0) (j := ((7 * i) + k)) E hC Nat.one_pos rfl rfl (qn_add (qn_mul rfl rfl) rfl) (show (7 * i) + k < 49 by omega) d_MD_strike_63 ?_
              refine lv_iload hx hb d_MD_strike_64 (lv_at hl 2 rfl) ?_
              refine lv_ishr hx hb d_MD_strike_66 ?_
              refine lv_iconst (v := 1) hx hb d_MD_strike_67 (by decide) ?_
              refine lv_iand hx hb d_MD_strike_68 ?_
              refine lv_iconst (v := 1) hx hb d_MD_strike_69 (by decide) ?_
              refine lv_icmp_ne hx hb d_MD_strike_70 rfl (fun h70 => ?_) (fun h70 => ?_)
              · refine lv_iinc (v := nI (k + 1)) hx hb d_MD_strike_76 hl (k := 0) rfl (nI_1 k) (by decide) rfl (fun ls hl => ?_)
                have hl : lv_has ls 7 [(6, .int (nI (k + 1))), (5, .int (nI (qm_acc w i j k))), (4, .int (nI j)), (3, .int (qm_cv y w i j)), (2, .int (nI (qm_bn y w i))), (0, .ref (qa_a y 22 0)), (1, .int (nI i))] := hl
                refine lv_goto hx hb d_MD_strike_79 rfl ?_
                have e5 : qm_acc w i j (k + 1) = qm_acc w i j k := if_neg (fun z => by have z2 := z.2.2; rw [← q34 k hk, qm_in_1f h70] at z2; cases z2)
                refine ihK (k + 1) ls (by omega) ?_
                rw [e5]
                exact lv_sub hl [0, 1, 2, 3, 4, 5, 6] rfl
              · refine lv_iinc (v := nI ((qm_acc w i j k) + 1)) hx hb d_MD_strike_73 hl (k := 1) rfl (nI_1 (qm_acc w i j k)) (by decide) rfl (fun ls hl => ?_)
                have hl : lv_has ls 7 [(5, .int (nI ((qm_acc w i j k) + 1))), (6, .int (nI k)), (4, .int (nI j)), (3, .int (qm_cv y w i j)), (2, .int (nI (qm_bn y w i))), (0, .ref (qa_a y 22 0)), (1, .int (nI i))] := hl
                refine lv_iinc (v := nI (k + 1)) hx hb d_MD_strike_76 hl (k := 1) rfl (nI_1 k) (by decide) rfl (fun ls hl => ?_)
                have hl : lv_has ls 7 [(6, .int (nI (k + 1))), (5, .int (nI ((qm_acc w i j k) + 1))), (4, .int (nI j)), (3, .int (qm_cv y w i j)), (2, .int (nI (qm_bn y w i))), (0, .ref (qa_a y 22 0)), (1, .int (nI i))] := hl
                refine lv_goto hx hb d_MD_strike_79 rfl ?_
                have e5 : qm_acc w i j (k + 1) = qm_acc w i j k + 1 := if_pos ⟨fun z => h39 (by rw [z]), by rw [← q28]; exact qb_n0 h49, by rw [← q34 k hk]; exact qm_in_1t h70⟩
                refine ihK (k + 1) ls (by omega) ?_
                rw [e5]
                exact lv_sub hl [0, 1, 2, 3, 4, 5, 6] rfl
      exact loopK (qa_n y) 0 ls (by omega) (lv_sub hl [0, 1, 2, 3, 4, 5, 6] rfl)
  refine lv_aload_n hx hb d_MD_strike_0 rfl (lv_at hl 0 rfl) ?_
  refine lv_iload_n hx hb d_MD_strike_1 rfl (lv_at hl 1 rfl) ?_
  refine qa_pV (k := 22) (i := 0) (As := [.int (nI i)]) E hC (c_MD_bears_i l y v i hi hmk) Nat.one_pos rfl rfl k_MD_111 (qa_fitR (by decide) (by decide)) rfl hl.1 rfl (Nat.le_of_ble_eq_true rfl) d_MD_strike_2 ?_
  rw [hbv]
  refine lv_istore_n hx hb d_MD_strike_5 rfl hl (by decide) rfl (fun ls hl => ?_)
  have hl : lv_has ls 7 [(2, .int (nI (qm_bn y w i))), (0, .ref (qa_a y 22 0)), (1, .int (nI i))] := hl
  refine lv_iconst (v := 0) hx hb d_MD_strike_6 (by decide) ?_
  refine lv_istore_n hx hb d_MD_strike_7 rfl hl (by decide) rfl (fun ls hl => ?_)
  have hl : lv_has ls 7 [(3, .int 0), (2, .int (nI (qm_bn y w i))), (0, .ref (qa_a y 22 0)), (1, .int (nI i))] := hl
  refine lv_iconst (v := 0) hx hb d_MD_strike_8 (by decide) ?_
  refine lv_istore hx hb d_MD_strike_9 hl (by decide) rfl (fun ls hl => ?_)
  have hl : lv_has ls 7 [(4, .int 0), (3, .int 0), (2, .int (nI (qm_bn y w i))), (0, .ref (qa_a y 22 0)), (1, .int (nI i))] := hl
  exact loopJ (qa_n y) 0 v _ _ ls (by omega) hC (fun c b f => by
    by_cases z : c = 22 ∧ b = 0 ∧ f = 4
    · obtain ⟨rfl, rfl, rfl⟩ := z
      rw [qa_up_s, show qm_bc (qm_cv y w i 0) = 0 by rw [qm_cv]; decide, Int32.add_zero]
    · rw [qa_up_x z]) (lv_sub hl [0, 1, 2, 3, 4] rfl)
