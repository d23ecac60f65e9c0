set_option maxHeartbeats 4000000 in
set_option maxRecDepth 100000 in
theorem c_MD_code (l : Launch) (y : qa_L) (v : qa_M) (z a b : Int32) (len : Nat → Nat) (w : qa_M) (hR : qm_RM (qa_n y) w v) (hlen : ∀ t, t < 4 → w 13 t 2 = nI (len t) ∧ len t ≤ 12) : qa_Mi l y_MD_code b_MD_code 4 (some .boolean) 1 [.ref (qa_a y 22 0), .int z, .int a, .int b] y v (fun r u => r = qb ((qm_wi z 0 3 && (qm_wi a 0 9 && qm_fits (qa_n y) a b)) && decide (len (qm_ix z) < 12)) ∧ qm_RM (qa_n y) (if (qm_wi z 0 3 && (qm_wi a 0 9 && qm_fits (qa_n y) a b)) = true ∧ len (qm_ix z) < 12 then qa_up (qa_up (qa_up w 14 (qm_ix z) (len (qm_ix z)) a) 15 (qm_ix z) (len (qm_ix z)) b) 13 (qm_ix z) 2 (nI (len (qm_ix z) + 1)) else w) u ∧ (∀ c b f, c < 22 → u c b f = v c b f)) := by
  refine qa_ofMi (plainFor_of_name (by decide)) (Nat.le_of_ble_eq_true rfl) ?_
  intro p e s m below meth c ls E hr hlocks hC hl
  have E : qa_E p m c b_MD_code 4 s _ "VotedFramesModel" y := E
  have F := E.1
  have hx := F.1
  have hb := F.2.1
  have hown : s.vm.findClass "VotedFramesModel" = some m.cls := F.2.2.2.1
  have hts := F.2.2.2.2
  have hn4 : 4 ≤ qa_n y := E.2.1.2.2.1
  have hn7 : qa_n y ≤ 7 := E.2.1.2.2.2.1
  have hl : lv_has ls 4 [(0, .ref (qa_a y 22 0)), (1, .int z), (2, .int a), (3, .int b)] := hl
  by_cases g1 : qm_wi z 0 3 = true
  · obtain ⟨t, ht, rfl⟩ := qm_wi_4 g1
    obtain ⟨hL, hL12⟩ := hlen t ht
    have h39 : v 39 0 t = nI (len t) := (qr_13 hR ht (by omega)).trans hL
    rw [show qm_ix (nI t) = t from qm_ix_n (by omega)]
    have hl : lv_has ls 4 [(0, .ref (qa_a y 22 0)), (1, .int (nI t)), (2, .int a), (3, .int b)] := hl
    refine lv_iload_n hx hb d_MD_code_0 rfl (lv_at hl 1 rfl) ?_
    refine qa_pT (As := [.int (nI t)]) F (c_MD_task l (nI t)) k_MD_87 (qa_fitR (by decide) (by decide)) rfl hl.1 rfl (Nat.le_of_ble_eq_true rfl) d_MD_code_1 ?_
    refine lv_if_eq hx hb d_MD_code_4 rfl (fun h9 => absurd h9 (qb_nz g1)) (fun _ => ?_)
    refine lv_iload_n hx hb d_MD_code_7 rfl (lv_at hl 2 rfl) ?_
    refine lv_if_lt hx hb d_MD_code_8 rfl (fun h8 => ?_) (fun h8 => ?_)
    · refine lv_iconst (v := 0) hx hb d_MD_code_28 (by decide) ?_
      exact qa_mzret E hC hr hlocks ⟨qb_0 (by rw [show qm_wi a 0 9 = false from qm_wi_f1 (qm_nle h8)]; simp), by rw [if_neg (by rw [show qm_wi a 0 9 = false from qm_wi_f1 (qm_nle h8)]; simp)]; exact hR, fun _ _ _ _ => rfl⟩ rfl d_MD_code_29
    · refine lv_iload_n hx hb d_MD_code_11 rfl (lv_at hl 2 rfl) ?_
      refine lv_bipush (v := 9) hx hb d_MD_code_12 (by decide) ?_
      refine lv_icmp_gt hx hb d_MD_code_14 rfl (fun h14 => ?_) (fun h14 => ?_)
      · refine lv_iconst (v := 0) hx hb d_MD_code_28 (by decide) ?_
        exact qa_mzret E hC hr hlocks ⟨qb_0 (by rw [show qm_wi a 0 9 = false from qm_wi_f2 (qm_nle h14)]; simp), by rw [if_neg (by rw [show qm_wi a 0 9 = false from qm_wi_f2 (qm_nle h14)]; simp)]; exact hR, fun _ _ _ _ => rfl⟩ rfl d_MD_code_29
      · refine lv_aload_n hx hb d_MD_code_17 rfl (lv_at hl 0 rfl) ?_
        refine qa_get (k := 22) (i := 0) (f := 21) (val := .ref (qa_a y 39 0)) E hC Nat.one_pos rfl rfl (by decide) f_MD_58 rfl rfl d_MD_code_18 ?_
        refine lv_iload_n hx hb d_MD_code_21 rfl (lv_at hl 1 rfl) ?_
        refine qa_ild (k := 39) (i := 0) (j := t) E hC Nat.one_pos rfl rfl rfl ht d_MD_code_22 ?_
        refine lv_bipush (v := 12) hx hb d_MD_code_23 (by decide) ?_
        refine lv_icmp_lt hx hb d_MD_code_25 rfl (fun h25 => ?_) (fun h25 => ?_)
        · refine lv_iload_n hx hb d_MD_code_30 rfl (lv_at hl 2 rfl) ?_
          refine lv_iconst (v := 1) hx hb d_MD_code_31 (by decide) ?_
          refine lv_icmp_ne hx hb d_MD_code_32 rfl (fun h32 => ?_) (fun h32 => ?_)
          · refine lv_iload_n hx hb d_MD_code_43 rfl (lv_at hl 2 rfl) ?_
            refine lv_iconst (v := 2) hx hb d_MD_code_44 (by decide) ?_
            refine lv_icmp_ne hx hb d_MD_code_45 rfl (fun h45 => ?_) (fun h45 => ?_)
            · refine lv_iload_n hx hb d_MD_code_55 rfl (lv_at hl 2 rfl) ?_
              refine lv_bipush (v := 8) hx hb d_MD_code_56 (by decide) ?_
              refine lv_icmp_ne hx hb d_MD_code_58 rfl (fun h58 => ?_) (fun h58 => ?_)
              · have hlt : len t < 12 := by
                  have h8 := h25
                  rw [h39] at h8
                  exact (nI_ltI (b := 12) (by omega) (by decide)).mp h8
                refine lv_aload_n hx hb d_MD_code_73 rfl (lv_at hl 0 rfl) ?_
                refine qa_get (k := 22) (i := 0) (f := 19) (val := .ref (qa_a y 37 0)) E hC Nat.one_pos rfl rfl (by decide) f_MD_52 rfl rfl d_MD_code_74 ?_
                refine lv_bipush (v := 12) hx hb d_MD_code_77 (by decide) ?_
                refine lv_iload_n hx hb d_MD_code_79 rfl (lv_at hl 1 rfl) ?_
                refine lv_imul hx hb d_MD_code_80 ?_
                refine lv_aload_n hx hb d_MD_code_81 rfl (lv_at hl 0 rfl) ?_
                refine qa_get (k := 22) (i := 0) (f := 21) (val := .ref (qa_a y 39 0)) E hC Nat.one_pos rfl rfl (by decide) f_MD_58 rfl rfl d_MD_code_82 ?_
                refine lv_iload_n hx hb d_MD_code_85 rfl (lv_at hl 1 rfl) ?_
                refine qa_ild (k := 39) (i := 0) (j := t) E hC Nat.one_pos rfl rfl rfl ht d_MD_code_86 ?_
                refine lv_iadd hx hb d_MD_code_87 ?_
                refine lv_iload_n hx hb d_MD_code_88 rfl (lv_at hl 2 rfl) ?_
                refine qa_ist (k := 37) (i := 0) (j := ((12 * t) + (len t))) E hC Nat.one_pos rfl rfl (qn_add (qn_mul rfl rfl) h39) (show (12 * t) + (len t) < 48 by omega) d_MD_code_89 (fun H locs hC => ?_)
                refine lv_aload_n hx hb d_MD_code_90 rfl (lv_at hl 0 rfl) ?_
                refine qa_get (k := 22) (i := 0) (f := 20) (val := .ref (qa_a y 38 0)) E hC Nat.one_pos rfl rfl (by decide) f_MD_55 rfl rfl d_MD_code_91 ?_
                refine lv_bipush (v := 12) hx hb d_MD_code_94 (by decide) ?_
                refine lv_iload_n hx hb d_MD_code_96 rfl (lv_at hl 1 rfl) ?_
                refine lv_imul hx hb d_MD_code_97 ?_
                refine lv_aload_n hx hb d_MD_code_98 rfl (lv_at hl 0 rfl) ?_
                refine qa_get (k := 22) (i := 0) (f := 21) (val := .ref (qa_a y 39 0)) E hC Nat.one_pos rfl rfl (by decide) f_MD_58 rfl rfl d_MD_code_99 ?_
                refine lv_iload_n hx hb d_MD_code_102 rfl (lv_at hl 1 rfl) ?_
                refine qa_ild (k := 39) (i := 0) (j := t) E hC Nat.one_pos rfl rfl rfl ht d_MD_code_103 ?_
                refine lv_iadd hx hb d_MD_code_104 ?_
                refine lv_iload_n hx hb d_MD_code_105 rfl (lv_at hl 3 rfl) ?_
                refine qa_ist (k := 38) (i := 0) (j := ((12 * t) + (len t))) E hC Nat.one_pos rfl rfl (qn_add (qn_mul rfl rfl) (show (qa_up v 37 0 ((12 * t) + (len t)) a) 39 0 t = nI (len t) by rw [qa_up_k (by decide)]; exact h39)) (show (12 * t) + (len t) < 48 by omega) d_MD_code_106 (fun H locs hC => ?_)
                refine lv_aload_n hx hb d_MD_code_107 rfl (lv_at hl 0 rfl) ?_
                refine qa_get (k := 22) (i := 0) (f := 21) (val := .ref (qa_a y 39 0)) E hC Nat.one_pos rfl rfl (by decide) f_MD_58 rfl rfl d_MD_code_108 ?_
                refine lv_iload_n hx hb d_MD_code_111 rfl (lv_at hl 1 rfl) ?_
                refine lv_dup2_11 hx hb d_MD_code_112 rfl rfl ?_
                refine qa_ild (k := 39) (i := 0) (j := t) E hC Nat.one_pos rfl rfl rfl ht d_MD_code_113 ?_
                refine lv_iconst (v := 1) hx hb d_MD_code_114 (by decide) ?_
                refine lv_iadd hx hb d_MD_code_115 ?_
                refine qa_ist (k := 39) (i := 0) (j := t) E hC Nat.one_pos rfl rfl rfl ht d_MD_code_116 (fun H locs hC => ?_)
                refine lv_iconst (v := 1) hx hb d_MD_code_117 (by decide) ?_
                have ef : qm_fits (qa_n y) a b = true := by unfold qm_fits; rw [if_neg h32, if_neg h45, if_neg h58]
                have ec : (qm_wi (nI t) 0 3 && (qm_wi a 0 9 && qm_fits (qa_n y) a b)) = true := by rw [g1, qm_wi_t (qm_nlt h8) (qm_nlt h14), ef]; rfl
                exact qa_mzret E hC hr hlocks ⟨qb_1 (by rw [ec, decide_eq_true hlt]; rfl), by rw [if_pos ⟨ec, hlt⟩, qa_up_k (by decide), qa_up_k (by decide), h39, nI_1]; exact qm_RM_up hn7 (qm_RM_up hn7 (qm_RM_up hn7 hR (qm_mu_o ht hlt)) (qm_mu_x ht hlt)) (qm_mu_13 (k := 39) (c := 2) ht (by omega)), fun c b9 f h => by rw [qa_up_k (by omega), qa_up_k (by omega), qa_up_k (by omega)]⟩ rfl d_MD_code_118
              · refine lv_iload_n hx hb d_MD_code_61 rfl (lv_at hl 3 rfl) ?_
                refine lv_if_lt hx hb d_MD_code_62 rfl (fun h62 => ?_) (fun h62 => ?_)
                · refine lv_iconst (v := 0) hx hb d_MD_code_71 (by decide) ?_
                  exact qa_mzret E hC hr hlocks ⟨qb_0 (by rw [show qm_fits (qa_n y) a b = false by unfold qm_fits; rw [if_neg h32, if_neg h45, if_pos h58]; exact qm_wi_f1 (qm_nle h62)]; simp), by rw [if_neg (by rw [show qm_fits (qa_n y) a b = false by unfold qm_fits; rw [if_neg h32, if_neg h45, if_pos h58]; exact qm_wi_f1 (qm_nle h62)]; simp)]; exact hR, fun _ _ _ _ => rfl⟩ rfl d_MD_code_72
                · refine lv_iload_n hx hb d_MD_code_65 rfl (lv_at hl 3 rfl) ?_
                  refine lv_bipush (v := 11) hx hb d_MD_code_66 (by decide) ?_
                  refine lv_icmp_le hx hb d_MD_code_68 rfl (fun h68 => ?_) (fun h68 => ?_)
                  · have hlt : len t < 12 := by
                      have h8 := h25
                      rw [h39] at h8
                      exact (nI_ltI (b := 12) (by omega) (by decide)).mp h8
                    refine lv_aload_n hx hb d_MD_code_73 rfl (lv_at hl 0 rfl) ?_
                    refine qa_get (k := 22) (i := 0) (f := 19) (val := .ref (qa_a y 37 0)) E hC Nat.one_pos rfl rfl (by decide) f_MD_52 rfl rfl d_MD_code_74 ?_
                    refine lv_bipush (v := 12) hx hb d_MD_code_77 (by decide) ?_
                    refine lv_iload_n hx hb d_MD_code_79 rfl (lv_at hl 1 rfl) ?_
                    refine lv_imul hx hb d_MD_code_80 ?_
                    refine lv_aload_n hx hb d_MD_code_81 rfl (lv_at hl 0 rfl) ?_
                    refine qa_get (k := 22) (i := 0) (f := 21) (val := .ref (qa_a y 39 0)) E hC Nat.one_pos rfl rfl (by decide) f_MD_58 rfl rfl d_MD_code_82 ?_
                    refine lv_iload_n hx hb d_MD_code_85 rfl (lv_at hl 1 rfl) ?_
                    refine qa_ild (k := 39) (i := 0) (j := t) E hC Nat.one_pos rfl rfl rfl ht d_MD_code_86 ?_
                    refine lv_iadd hx hb d_MD_code_87 ?_
                    refine lv_iload_n hx hb d_MD_code_88 rfl (lv_at hl 2 rfl) ?_
                    refine qa_ist (k := 37) (i := 0) (j := ((12 * t) + (len t))) E hC Nat.one_pos rfl rfl (qn_add (qn_mul rfl rfl) h39) (show (12 * t) + (len t) < 48 by omega) d_MD_code_89 (fun H locs hC => ?_)
                    refine lv_aload_n hx hb d_MD_code_90 rfl (lv_at hl 0 rfl) ?_
                    refine qa_get (k := 22) (i := 0) (f := 20) (val := .ref (qa_a y 38 0)) E hC Nat.one_pos rfl rfl (by decide) f_MD_55 rfl rfl d_MD_code_91 ?_
                    refine lv_bipush (v := 12) hx hb d_MD_code_94 (by decide) ?_
                    refine lv_iload_n hx hb d_MD_code_96 rfl (lv_at hl 1 rfl) ?_
                    refine lv_imul hx hb d_MD_code_97 ?_
                    refine lv_aload_n hx hb d_MD_code_98 rfl (lv_at hl 0 rfl) ?_
                    refine qa_get (k := 22) (i := 0) (f := 21) (val := .ref (qa_a y 39 0)) E hC Nat.one_pos rfl rfl (by decide) f_MD_58 rfl rfl d_MD_code_99 ?_
                    refine lv_iload_n hx hb d_MD_code_102 rfl (lv_at hl 1 rfl) ?_
                    refine qa_ild (k := 39) (i := 0) (j := t) E hC Nat.one_pos rfl rfl rfl ht d_MD_code_103 ?_
                    refine lv_iadd hx hb d_MD_code_104 ?_
                    refine lv_iload_n hx hb d_MD_code_105 rfl (lv_at hl 3 rfl) ?_
                    refine qa_ist (k := 38) (i := 0) (j := ((12 * t) + (len t))) E hC Nat.one_pos rfl rfl (qn_add (qn_mul rfl rfl) (show (qa_up v 37 0 ((12 * t) + (len t)) a) 39 0 t = nI (len t) by rw [qa_up_k (by decide)]; exact h39)) (show (12 * t) + (len t) < 48 by omega) d_MD_code_106 (fun H locs hC => ?_)
                    refine lv_aload_n hx hb d_MD_code_107 rfl (lv_at hl 0 rfl) ?_
                    refine qa_get (k := 22) (i := 0) (f := 21) (val := .ref (qa_a y 39 0)) E hC Nat.one_pos rfl rfl (by decide) f_MD_58 rfl rfl d_MD_code_108 ?_
                    refine lv_iload_n hx hb d_MD_code_111 rfl (lv_at hl 1 rfl) ?_
                    refine lv_dup2_11 hx hb d_MD_code_112 rfl rfl ?_
                    refine qa_ild (k := 39) (i := 0) (j := t) E hC Nat.one_pos rfl rfl rfl ht d_MD_code_113 ?_
                    refine lv_iconst (v := 1) hx hb d_MD_code_114 (by decide) ?_
                    refine lv_iadd hx hb d_MD_code_115 ?_
                    refine qa_ist (k := 39) (i := 0) (j := t) E hC Nat.one_pos rfl rfl rfl ht d_MD_code_116 (fun H locs hC => ?_)
                    refine lv_iconst (v := 1) hx hb d_MD_code_117 (by decide) ?_
                    have ef : qm_fits (qa_n y) a b = true := by unfold qm_fits; rw [if_neg h32, if_neg h45, if_pos h58]; exact qm_wi_t (qm_nlt h62) h68
                    have ec : (qm_wi (nI t) 0 3 && (qm_wi a 0 9 && qm_fits (qa_n y) a b)) = true := by rw [g1, qm_wi_t (qm_nlt h8) (qm_nlt h14), ef]; rfl
                    exact qa_mzret E hC hr hlocks ⟨qb_1 (by rw [ec, decide_eq_true hlt]; rfl), by rw [if_pos ⟨ec, hlt⟩, qa_up_k (by decide), qa_up_k (by decide), h39, nI_1]; exact qm_RM_up hn7 (qm_RM_up hn7 (qm_RM_up hn7 hR (qm_mu_o ht hlt)) (qm_mu_x ht hlt)) (qm_mu_13 (k := 39) (c := 2) ht (by omega)), fun c b9 f h => by rw [qa_up_k (by omega), qa_up_k (by omega), qa_up_k (by omega)]⟩ rfl d_MD_code_118
                  · refine lv_iconst (v := 0) hx hb d_MD_code_71 (by decide) ?_
                    exact qa_mzret E hC hr hlocks ⟨qb_0 (by rw [show qm_fits (qa_n y) a b = false by unfold qm_fits; rw [if_neg h32, if_neg h45, if_pos h58]; exact qm_wi_f2 h68]; simp), by rw [if_neg (by rw [show qm_fits (qa_n y) a b = false by unfold qm_fits; rw [if_neg h32, if_neg h45, if_pos h58]; exact qm_wi_f2 h68]; simp)]; exact hR, fun _ _ _ _ => rfl⟩ rfl d_MD_code_72
            · refine lv_iload_n hx hb d_MD_code_48 rfl (lv_at hl 3 rfl) ?_
              refine qa_pT (As := [.int b]) F (c_MD_task l b) k_MD_87 (qa_fitR (by decide) (by decide)) rfl hl.1 rfl (Nat.le_of_ble_eq_true rfl) d_MD_code_49 ?_
              refine lv_if_eq hx hb d_MD_code_52 rfl (fun h52 => ?_) (fun h52 => ?_)
              · refine lv_iconst (v := 0) hx hb d_MD_code_71 (by decide) ?_
                exact qa_mzret E hC hr hlocks ⟨qb_0 (by rw [show qm_fits (qa_n y) a b = false by unfold qm_fits; rw [if_neg h32, if_pos h45]; exact qb_e0 h52]; simp), by rw [if_neg (by rw [show qm_fits (qa_n y) a b = false by unfold qm_fits; rw [if_neg h32, if_pos h45]; exact qb_e0 h52]; simp)]; exact hR, fun _ _ _ _ => rfl⟩ rfl d_MD_code_72
              · refine lv_iload_n hx hb d_MD_code_55 rfl (lv_at hl 2 rfl) ?_
                refine lv_bipush (v := 8) hx hb d_MD_code_56 (by decide) ?_
                refine lv_icmp_ne hx hb d_MD_code_58 rfl (fun _ => ?_) (fun h9 => absurd h9 (by rw [h45]; decide))
                have hlt : len t < 12 := by
                  have h8 := h25
                  rw [h39] at h8
                  exact (nI_ltI (b := 12) (by omega) (by decide)).mp h8
                refine lv_aload_n hx hb d_MD_code_73 rfl (lv_at hl 0 rfl) ?_
                refine qa_get (k := 22) (i := 0) (f := 19) (val := .ref (qa_a y 37 0)) E hC Nat.one_pos rfl rfl (by decide) f_MD_52 rfl rfl d_MD_code_74 ?_
                refine lv_bipush (v := 12) hx hb d_MD_code_77 (by decide) ?_
                refine lv_iload_n hx hb d_MD_code_79 rfl (lv_at hl 1 rfl) ?_
                refine lv_imul hx hb d_MD_code_80 ?_
                refine lv_aload_n hx hb d_MD_code_81 rfl (lv_at hl 0 rfl) ?_
                refine qa_get (k := 22) (i := 0) (f := 21) (val := .ref (qa_a y 39 0)) E hC Nat.one_pos rfl rfl (by decide) f_MD_58 rfl rfl d_MD_code_82 ?_
                refine lv_iload_n hx hb d_MD_code_85 rfl (lv_at hl 1 rfl) ?_
                refine qa_ild (k := 39) (i := 0) (j := t) E hC Nat.one_pos rfl rfl rfl ht d_MD_code_86 ?_
                refine lv_iadd hx hb d_MD_code_87 ?_
                refine lv_iload_n hx hb d_MD_code_88 rfl (lv_at hl 2 rfl) ?_
                refine qa_ist (k := 37) (i := 0) (j := ((12 * t) + (len t))) E hC Nat.one_pos rfl rfl (qn_add (qn_mul rfl rfl) h39) (show (12 * t) + (len t) < 48 by omega) d_MD_code_89 (fun H locs hC => ?_)
                refine lv_aload_n hx hb d_MD_code_90 rfl (lv_at hl 0 rfl) ?_
                refine qa_get (k := 22) (i := 0) (f := 20) (val := .ref (qa_a y 38 0)) E hC Nat.one_pos rfl rfl (by decide) f_MD_55 rfl rfl d_MD_code_91 ?_
                refine lv_bipush (v := 12) hx hb d_MD_code_94 (by decide) ?_
                refine lv_iload_n hx hb d_MD_code_96 rfl (lv_at hl 1 rfl) ?_
                refine lv_imul hx hb d_MD_code_97 ?_
                refine lv_aload_n hx hb d_MD_code_98 rfl (lv_at hl 0 rfl) ?_
                refine qa_get (k := 22) (i := 0) (f := 21) (val := .ref (qa_a y 39 0)) E hC Nat.one_pos rfl rfl (by decide) f_MD_58 rfl rfl d_MD_code_99 ?_
                refine lv_iload_n hx hb d_MD_code_102 rfl (lv_at hl 1 rfl) ?_
                refine qa_ild (k := 39) (i := 0) (j := t) E hC Nat.one_pos rfl rfl rfl ht d_MD_code_103 ?_
                refine lv_iadd hx hb d_MD_code_104 ?_
                refine lv_iload_n hx hb d_MD_code_105 rfl (lv_at hl 3 rfl) ?_
                refine qa_ist (k := 38) (i := 0) (j := ((12 * t) + (len t))) E hC Nat.one_pos rfl rfl (qn_add (qn_mul rfl rfl) (show (qa_up v 37 0 ((12 * t) + (len t)) a) 39 0 t = nI (len t) by rw [qa_up_k (by decide)]; exact h39)) (show (12 * t) + (len t) < 48 by omega) d_MD_code_106 (fun H locs hC => ?_)
                refine lv_aload_n hx hb d_MD_code_107 rfl (lv_at hl 0 rfl) ?_
                refine qa_get (k := 22) (i := 0) (f := 21) (val := .ref (qa_a y 39 0)) E hC Nat.one_pos rfl rfl (by decide) f_MD_58 rfl rfl d_MD_code_108 ?_
                refine lv_iload_n hx hb d_MD_code_111 rfl (lv_at hl 1 rfl) ?_
                refine lv_dup2_11 hx hb d_MD_code_112 rfl rfl ?_
                refine qa_ild (k := 39) (i := 0) (j := t) E hC Nat.one_pos rfl rfl rfl ht d_MD_code_113 ?_
                refine lv_iconst (v := 1) hx hb d_MD_code_114 (by decide) ?_
                refine lv_iadd hx hb d_MD_code_115 ?_
                refine qa_ist (k := 39) (i := 0) (j := t) E hC Nat.one_pos rfl rfl rfl ht d_MD_code_116 (fun H locs hC => ?_)
                refine lv_iconst (v := 1) hx hb d_MD_code_117 (by decide) ?_
                have ef : qm_fits (qa_n y) a b = true := by unfold qm_fits; rw [if_neg h32, if_pos h45]; exact qb_n0 h52
                have ec : (qm_wi (nI t) 0 3 && (qm_wi a 0 9 && qm_fits (qa_n y) a b)) = true := by rw [g1, qm_wi_t (qm_nlt h8) (qm_nlt h14), ef]; rfl
                exact qa_mzret E hC hr hlocks ⟨qb_1 (by rw [ec, decide_eq_true hlt]; rfl), by rw [if_pos ⟨ec, hlt⟩, qa_up_k (by decide), qa_up_k (by decide), h39, nI_1]; exact qm_RM_up hn7 (qm_RM_up hn7 (qm_RM_up hn7 hR (qm_mu_o ht hlt)) (qm_mu_x ht hlt)) (qm_mu_13 (k := 39) (c := 2) ht (by omega)), fun c b9 f h => by rw [qa_up_k (by omega), qa_up_k (by omega), qa_up_k (by omega)]⟩ rfl d_MD_code_118
          · refine lv_aload_n hx hb d_MD_code_35 rfl (lv_at hl 0 rfl) ?_
            refine lv_iload_n hx hb d_MD_code_36 rfl (lv_at hl 3 rfl) ?_
            refine qa_pV (k := 22) (i := 0) (As := [.int b]) E hC (c_MD_node l y v b) Nat.one_pos rfl rfl k_MD_83 (qa_fitR (by decide) (by decide)) rfl hl.1 rfl (Nat.le_of_ble_eq_true rfl) d_MD_code_37 ?_
            refine lv_if_eq hx hb d_MD_code_40 rfl (fun h40 => ?_) (fun h40 => ?_)
            · refine lv_iconst (v := 0) hx hb d_MD_code_71 (by decide) ?_
              exact qa_mzret E hC hr hlocks ⟨qb_0 (by rw [show qm_fits (qa_n y) a b = false by unfold qm_fits; rw [if_pos h32]; exact qb_e0 h40]; simp), by rw [if_neg (by rw [show qm_fits (qa_n y) a b = false by unfold qm_fits; rw [if_pos h32]; exact qb_e0 h40]; simp)]; exact hR, fun _ _ _ _ => rfl⟩ rfl d_MD_code_72
            · refine lv_iload_n hx hb d_MD_code_43 rfl (lv_at hl 2 rfl) ?_
              refine lv_iconst (v := 2) hx hb d_MD_code_44 (by decide) ?_
              refine lv_icmp_ne hx hb d_MD_code_45 rfl (fun _ => ?_) (fun h9 => absurd h9 (by rw [h32]; decide))
              refine lv_iload_n hx hb d_MD_code_55 rfl (lv_at hl 2 rfl) ?_
              refine lv_bipush (v := 8) hx hb d_MD_code_56 (by decide) ?_
              refine lv_icmp_ne hx hb d_MD_code_58 rfl (fun _ => ?_) (fun h9 => absurd h9 (by rw [h32]; decide))
              have hlt : len t < 12 := by
                have h8 := h25
                rw [h39] at h8
                exact (nI_ltI (b := 12) (by omega) (by decide)).mp h8
              refine lv_aload_n hx hb d_MD_code_73 rfl (lv_at hl 0 rfl) ?_
              refine qa_get (k := 22) (i := 0) (f := 19) (val := .ref (qa_a y 37 0)) E hC Nat.one_pos rfl rfl (by decide) f_MD_52 rfl rfl d_MD_code_74 ?_
              refine lv_bipush (v := 12) hx hb d_MD_code_77 (by decide) ?_
              refine lv_iload_n hx hb d_MD_code_79 rfl (lv_at hl 1 rfl) ?_
              refine lv_imul hx hb d_MD_code_80 ?_
              refine lv_aload_n hx hb d_MD_code_81 rfl (lv_at hl 0 rfl) ?_
              refine qa_get (k := 22) (i := 0) (f := 21) (val := .ref (qa_a y 39 0)) E hC Nat.one_pos rfl rfl (by decide) f_MD_58 rfl rfl d_MD_code_82 ?_
              refine lv_iload_n hx hb d_MD_code_85 rfl (lv_at hl 1 rfl) ?_
              refine qa_ild (k := 39) (i := 0) (j := t) E hC Nat.one_pos rfl rfl rfl ht d_MD_code_86 ?_
              refine lv_iadd hx hb d_MD_code_87 ?_
              refine lv_iload_n hx hb d_MD_code_88 rfl (lv_at hl 2 rfl) ?_
              refine qa_ist (k := 37) (i := 0) (j := ((12 * t) + (len t))) E hC Nat.one_pos rfl rfl (qn_add (qn_mul rfl rfl) h39) (show (12 * t) + (len t) < 48 by omega) d_MD_code_89 (fun H locs hC => ?_)
              refine lv_aload_n hx hb d_MD_code_90 rfl (lv_at hl 0 rfl) ?_
              refine qa_get (k := 22) (i := 0) (f := 20) (val := .ref (qa_a y 38 0)) E hC Nat.one_pos rfl rfl (by decide) f_MD_55 rfl rfl d_MD_code_91 ?_
              refine lv_bipush (v := 12) hx hb d_MD_code_94 (by decide) ?_
              refine lv_iload_n hx hb d_MD_code_96 rfl (lv_at hl 1 rfl) ?_
              refine lv_imul hx hb d_MD_code_97 ?_
              refine lv_aload_n hx hb d_MD_code_98 rfl (lv_at hl 0 rfl) ?_
              refine qa_get (k := 22) (i := 0) (f := 21) (val := .ref (qa_a y 39 0)) E hC Nat.one_pos rfl rfl (by decide) f_MD_58 rfl rfl d_MD_code_99 ?_
              refine lv_iload_n hx hb d_MD_code_102 rfl (lv_at hl 1 rfl) ?_
              refine qa_ild (k := 39) (i := 0) (j := t) E hC Nat.one_pos rfl rfl rfl ht d_MD_code_103 ?_
              refine lv_iadd hx hb d_MD_code_104 ?_
              refine lv_iload_n hx hb d_MD_code_105 rfl (lv_at hl 3 rfl) ?_
              refine qa_ist (k := 38) (i := 0) (j := ((12 * t) + (len t))) E hC Nat.one_pos rfl rfl (qn_add (qn_mul rfl rfl) (show (qa_up v 37 0 ((12 * t) + (len t)) a) 39 0 t = nI (len t) by rw [qa_up_k (by decide)]; exact h39)) (show (12 * t) + (len t) < 48 by omega) d_MD_code_106 (fun H locs hC => ?_)
              refine lv_aload_n hx hb d_MD_code_107 rfl (lv_at hl 0 rfl) ?_
              refine qa_get (k := 22) (i := 0) (f := 21) (val := .ref (qa_a y 39 0)) E hC Nat.one_pos rfl rfl (by decide) f_MD_58 rfl rfl d_MD_code_108 ?_
              refine lv_iload_n hx hb d_MD_code_111 rfl (lv_at hl 1 rfl) ?_
              refine lv_dup2_11 hx hb d_MD_code_112 rfl rfl ?_
              refine qa_ild (k := 39) (i := 0) (j := t) E hC Nat.one_pos rfl rfl rfl ht d_MD_code_113 ?_
              refine lv_iconst (v := 1) hx hb d_MD_code_114 (by decide) ?_
              refine lv_iadd hx hb d_MD_code_115 ?_
              refine qa_ist (k := 39) (i := 0) (j := t) E hC Nat.one_pos rfl rfl rfl ht d_MD_code_116 (fun H locs hC => ?_)
              refine lv_iconst (v := 1) hx hb d_MD_code_117 (by decide) ?_
              have ef : qm_fits (qa_n y) a b = true := by unfold qm_fits; rw [if_pos h32]; exact qb_n0 h40
              have ec : (qm_wi (nI t) 0 3 && (qm_wi a 0 9 && qm_fits (qa_n y) a b)) = true := by rw [g1, qm_wi_t (qm_nlt h8) (qm_nlt h14), ef]; rfl
              exact qa_mzret E hC hr hlocks ⟨qb_1 (by rw [ec, decide_eq_true hlt]; rfl), by rw [if_pos ⟨ec, hlt⟩, qa_up_k (by decide), qa_up_k (by decide), h39, nI_1]; exact qm_RM_up hn7 (qm_RM_up hn7 (qm_RM_up hn7 hR (qm_mu_o ht hlt)) (qm_mu_x ht hlt)) (qm_mu_13 (k := 39) (c := 2) ht (by omega)), fun c b9 f h => by rw [qa_up_k (by omega), qa_up_k (by omega), qa_up_k (by omega)]⟩ rfl d_MD_code_118
        · refine lv_iconst (v := 0) hx hb d_MD_code_28 (by decide) ?_
          have hnl : ¬ len t < 12 := fun z9 => h25 (by rw [h39]; exact nI_lt (b := 12) z9 (by decide))
          exact qa_mzret E hC hr hlocks ⟨qb_0 (by rw [decide_eq_false hnl]; simp), by rw [if_neg (fun z9 => hnl z9.2)]; exact hR, fun _ _ _ _ => rfl⟩ rfl d_MD_code_29
  · have g0 := Bool.eq_false_iff.mpr g1
    refine lv_iload_n hx hb d_MD_code_0 rfl (lv_at hl 1 rfl) ?_
    refine qa_pT (As := [.int z]) F (c_MD_task l z) k_MD_87 (qa_fitR (by decide) (by decide)) rfl hl.1 rfl (Nat.le_of_ble_eq_true rfl) d_MD_code_1 ?_
    refine lv_if_eq hx hb d_MD_code_4 rfl (fun _ => ?_) (fun h9 => absurd (qb_zf g0) h9)
    refine lv_iconst (v := 0) hx hb d_MD_code_28 (by decide) ?_
    exact qa_mzret E hC hr hlocks ⟨qb_0 (by rw [g0]; simp), by rw [if_neg (by rw [g0]; simp)]; exact hR, fun _ _ _ _ => rfl⟩ rfl d_MD_code_29
