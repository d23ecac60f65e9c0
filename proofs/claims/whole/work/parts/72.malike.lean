set_option maxHeartbeats 4000000 in
set_option maxRecDepth 100000 in
theorem c_MD_twins (l : Launch) (y : qa_L) (v : qa_M) (i j : Nat) (hi : i < qa_n y) (hj : j < qa_n y) (w : qa_M) (hR : qm_RM (qa_n y) w v) : qa_Pu l y_MD_twins b_MD_twins 5 (some .boolean) 0 [.ref (qa_a y 22 0), .int (nI i), .int (nI j)] (qa_W y v) (qb (qm_alk y w i j)) := by
  refine qa_ofPu (plainFor_of_name (by decide)) (Nat.le_of_ble_eq_true rfl) ?_
  intro p e s m below meth c ls F hr hlocks hW hl
  have E : qa_E p m c b_MD_twins 5 s _ "VotedFramesModel" y := ⟨F, hW.2⟩
  have hC : qa_C y v s s.heap [] := ⟨hW.1, va_S.rf⟩
  have hx := F.1
  have hb := F.2.1
  have hown : s.vm.findClass "VotedFramesModel" = some m.cls := F.2.2.2.1
  have hts := F.2.2.2.2
  have hn4 : 4 ≤ qa_n y := E.2.1.2.2.1
  have hn7 : qa_n y ≤ 7 := E.2.1.2.2.2.1
  have hl : lv_has ls 5 [(0, .ref (qa_a y 22 0)), (1, .int (nI i)), (2, .int (nI j))] := hl
  have loop1 : ∀ (d k : Nat) (B : Bool) (ls : Array Slot), k + d = 4 → (B = true ↔ (v 28 0 i = v 28 0 j ∧ ∀ a, a < k → v 32 0 (4 * i + a) = v 32 0 (4 * j + a))) → lv_has ls 5 [(4, .int (nI k)), (3, .int (qb B)), (0, .ref (qa_a y 22 0)), (1, .int (nI i)), (2, .int (nI j))] → W p l e (qa_R 0) s m [.ref (qa_a y 22 0), .int (nI i), .int (nI j)].toArray below meth c s.heap [] 0 0 (MQ below (QcRead (qb (qm_alk y w i j))) [.ref (qa_a y 22 0), .int (nI i), .int (nI j)].toArray s 0 0 (fun _ => False)) (F0 m 24 ls []) := by
    intro d
    induction d with
    | zero =>
      intro k B ls hkd hI hl
      obtain rfl : 4 = k := by omega
      refine lv_iload hx hb d_MD_twins_24 (lv_at hl 0 rfl) ?_
      refine lv_iconst (v := 4) hx hb d_MD_twins_26 (by decide) ?_
      refine lv_icmp_ge hx hb d_MD_twins_27 rfl (fun _ => ?_) (fun h9 => absurd (show (4 : Int32) ≤ nI 4 by decide) h9)
      refine lv_iconst (v := 0) hx hb d_MD_twins_71 (by decide) ?_
      refine lv_istore hx hb d_MD_twins_72 hl (by decide) rfl (fun ls hl => ?_)
      have hl : lv_has ls 5 [(4, .int 0), (3, .int (qb B)), (0, .ref (qa_a y 22 0)), (1, .int (nI i)), (2, .int (nI j))] := hl
      have hI1 := hI
      have loop2 : ∀ (d k : Nat) (B : Bool) (ls : Array Slot), k + d = qa_n y → (B = true ↔ ((v 28 0 i = v 28 0 j ∧ ∀ a, a < 4 → v 32 0 (4 * i + a) = v 32 0 (4 * j + a)) ∧ ∀ a, a < k → v 33 0 (7 * i + a) = v 33 0 (7 * j + a))) → lv_has ls 5 [(4, .int (nI k)), (3, .int (qb B)), (0, .ref (qa_a y 22 0)), (1, .int (nI i)), (2, .int (nI j))] → W p l e (qa_R 0) s m [.ref (qa_a y 22 0), .int (nI i), .int (nI j)].toArray below meth c s.heap [] 0 0 (MQ below (QcRead (qb (qm_alk y w i j))) [.ref (qa_a y 22 0), .int (nI i), .int (nI j)].toArray s 0 0 (fun _ => False)) (F0 m 74 ls []) := by
        intro d
        induction d with
        | zero =>
          intro k B ls hkd hI hl
          obtain rfl : qa_n y = k := by omega
          refine lv_iload hx hb d_MD_twins_74 (lv_at hl 0 rfl) ?_
          refine lv_aload_n hx hb d_MD_twins_76 rfl (lv_at hl 2 rfl) ?_
          refine qa_get (k := 22) (i := 0) (f := 0) (val := .int (nI (qa_n y))) E hC Nat.one_pos rfl rfl (by decide) f_MD_73 rfl rfl d_MD_twins_77 ?_
          refine lv_icmp_ge hx hb d_MD_twins_80 rfl (fun _ => ?_) (fun h9 => absurd (nI_le (Nat.le_refl _) (by omega)) h9)
          refine lv_iload_n hx hb d_MD_twins_126 rfl (lv_at hl 1 rfl) ?_
          exact qa_zret hx hb hr hlocks (congrArg qb (Bool.eq_iff_iff.mpr (hI.trans (Iff.trans (by
              rw [qr_msk hR hi, qr_msk hR hj]
              constructor
              · rintro ⟨⟨z1, z2⟩, z3⟩
                exact ⟨z1, fun k hk => by have := z2 k hk; rw [qr_wrd hR hi hk, qr_wrd hR hj hk] at this; exact this, fun k hk => by have := z3 k hk; rw [qr_inp hR hi hk, qr_inp hR hj hk] at this; exact this⟩
              · rintro ⟨z1, z2, z3⟩
                exact ⟨⟨z1, fun k hk => by rw [qr_wrd hR hi hk, qr_wrd hR hj hk]; exact z2 k hk⟩, fun k hk => by rw [qr_inp hR hi hk, qr_inp hR hj hk]; exact z3 k hk⟩) qm_alk_iff.symm)))) (qb_nar _) d_MD_twins_127
        | succ d ih =>
          intro k B ls hkd hI hl
          have hk : k < qa_n y := by omega
          refine lv_iload hx hb d_MD_twins_74 (lv_at hl 0 rfl) ?_
          refine lv_aload_n hx hb d_MD_twins_76 rfl (lv_at hl 2 rfl) ?_
          refine qa_get (k := 22) (i := 0) (f := 0) (val := .int (nI (qa_n y))) E hC Nat.one_pos rfl rfl (by decide) f_MD_73 rfl rfl d_MD_twins_77 ?_
          refine lv_icmp_ge hx hb d_MD_twins_80 rfl (fun h9 => absurd h9 (nI_ge hk (by omega))) (fun _ => ?_)
          refine lv_iload_n hx hb d_MD_twins_83 rfl (lv_at hl 1 rfl) ?_
          refine lv_if_eq hx hb d_MD_twins_84 rfl (fun h84 => ?_) (fun h84 => ?_)
          · refine lv_iconst (v := 0) hx hb d_MD_twins_118 (by decide) ?_
            refine lv_istore_n hx hb d_MD_twins_119 rfl hl (by decide) rfl (fun ls hl => ?_)
            have hl : lv_has ls 5 [(3, .int 0), (4, .int (nI k)), (0, .ref (qa_a y 22 0)), (1, .int (nI i)), (2, .int (nI j))] := hl
            refine lv_iinc (v := nI (k + 1)) hx hb d_MD_twins_120 hl (k := 1) rfl (nI_1 k) (by decide) rfl (fun ls hl => ?_)
            have hl : lv_has ls 5 [(4, .int (nI (k + 1))), (3, .int 0), (0, .ref (qa_a y 22 0)), (1, .int (nI i)), (2, .int (nI j))] := hl
            refine lv_goto hx hb d_MD_twins_123 rfl ?_
            exact ih (k + 1) false ls (by omega) (qm_st_f hI (Or.inl (qb_e0 h84))) (lv_sub hl [0, 1, 2, 3, 4] rfl)
          · refine lv_aload_n hx hb d_MD_twins_87 rfl (lv_at hl 2 rfl) ?_
            refine qa_get (k := 22) (i := 0) (f := 15) (val := .ref (qa_a y 33 0)) E hC Nat.one_pos rfl rfl (by decide) f_MD_40 rfl rfl d_MD_twins_88 ?_
            refine lv_bipush (v := 7) hx hb d_MD_twins_91 (by decide) ?_
            refine lv_iload_n hx hb d_MD_twins_93 rfl (lv_at hl 3 rfl) ?_
            refine lv_imul hx hb d_MD_twins_94 ?_
            refine lv_iload hx hb d_MD_twins_95 (lv_at hl 0 rfl) ?_
            refine lv_iadd hx hb d_MD_twins_97 ?_
            refine qa_ild (k := 33) (i := 0) (j := ((7 * i) + k)) E hC Nat.one_pos rfl rfl (qn_add (qn_mul rfl rfl) rfl) (show (7 * i) + k < 56 by omega) d_MD_twins_98 ?_
            refine lv_aload_n hx hb d_MD_twins_99 rfl (lv_at hl 2 rfl) ?_
            refine qa_get (k := 22) (i := 0) (f := 15) (val := .ref (qa_a y 33 0)) E hC Nat.one_pos rfl rfl (by decide) f_MD_40 rfl rfl d_MD_twins_100 ?_
            refine lv_bipush (v := 7) hx hb d_MD_twins_103 (by decide) ?_
            refine lv_iload_n hx hb d_MD_twins_105 rfl (lv_at hl 4 rfl) ?_
            refine lv_imul hx hb d_MD_twins_106 ?_
            refine lv_iload hx hb d_MD_twins_107 (lv_at hl 0 rfl) ?_
            refine lv_iadd hx hb d_MD_twins_109 ?_
            refine qa_ild (k := 33) (i := 0) (j := ((7 * j) + k)) E hC Nat.one_pos rfl rfl (qn_add (qn_mul rfl rfl) rfl) (show (7 * j) + k < 56 by omega) d_MD_twins_110 ?_
            refine lv_icmp_ne hx hb d_MD_twins_111 rfl (fun h111 => ?_) (fun h111 => ?_)
            · refine lv_iconst (v := 0) hx hb d_MD_twins_118 (by decide) ?_
              refine lv_istore_n hx hb d_MD_twins_119 rfl hl (by decide) rfl (fun ls hl => ?_)
              have hl : lv_has ls 5 [(3, .int 0), (4, .int (nI k)), (0, .ref (qa_a y 22 0)), (1, .int (nI i)), (2, .int (nI j))] := hl
              refine lv_iinc (v := nI (k + 1)) hx hb d_MD_twins_120 hl (k := 1) rfl (nI_1 k) (by decide) rfl (fun ls hl => ?_)
              have hl : lv_has ls 5 [(4, .int (nI (k + 1))), (3, .int 0), (0, .ref (qa_a y 22 0)), (1, .int (nI i)), (2, .int (nI j))] := hl
              refine lv_goto hx hb d_MD_twins_123 rfl ?_
              exact ih (k + 1) false ls (by omega) (qm_st_f hI (Or.inr h111)) (lv_sub hl [0, 1, 2, 3, 4] rfl)
            · refine lv_iconst (v := 1) hx hb d_MD_twins_114 (by decide) ?_
              refine lv_goto hx hb d_MD_twins_115 rfl ?_
              refine lv_istore_n hx hb d_MD_twins_119 rfl hl (by decide) rfl (fun ls hl => ?_)
              have hl : lv_has ls 5 [(3, .int 1), (4, .int (nI k)), (0, .ref (qa_a y 22 0)), (1, .int (nI i)), (2, .int (nI j))] := hl
              refine lv_iinc (v := nI (k + 1)) hx hb d_MD_twins_120 hl (k := 1) rfl (nI_1 k) (by decide) rfl (fun ls hl => ?_)
              have hl : lv_has ls 5 [(4, .int (nI (k + 1))), (3, .int 1), (0, .ref (qa_a y 22 0)), (1, .int (nI i)), (2, .int (nI j))] := hl
              refine lv_goto hx hb d_MD_twins_123 rfl ?_
              exact ih (k + 1) true ls (by omega) (qm_st_t hI (qb_n0 h84) h111) (lv_sub hl [0, 1, 2, 3, 4] rfl)
      exact loop2 (qa_n y) 0 B ls (by omega) (hI1.trans ⟨fun z => ⟨z, lt_0⟩, fun z => z.1⟩) (lv_sub hl [0, 1, 2, 3, 4] rfl)
    | succ d ih =>
      intro k B ls hkd hI hl
      have hk : k < 4 := by omega
      refine lv_iload hx hb d_MD_twins_24 (lv_at hl 0 rfl) ?_
      refine lv_iconst (v := 4) hx hb d_MD_twins_26 (by decide) ?_
      refine lv_icmp_ge hx hb d_MD_twins_27 rfl (fun h9 => absurd h9 (show ¬ (4 : Int32) ≤ nI k from nI_ge (b := 4) hk (by decide))) (fun _ => ?_)
      refine lv_iload_n hx hb d_MD_twins_30 rfl (lv_at hl 1 rfl) ?_
      refine lv_if_eq hx hb d_MD_twins_31 rfl (fun h31 => ?_) (fun h31 => ?_)
      · refine lv_iconst (v := 0) hx hb d_MD_twins_63 (by decide) ?_
        refine lv_istore_n hx hb d_MD_twins_64 rfl hl (by decide) rfl (fun ls hl => ?_)
        have hl : lv_has ls 5 [(3, .int 0), (4, .int (nI k)), (0, .ref (qa_a y 22 0)), (1, .int (nI i)), (2, .int (nI j))] := hl
        refine lv_iinc (v := nI (k + 1)) hx hb d_MD_twins_65 hl (k := 1) rfl (nI_1 k) (by decide) rfl (fun ls hl => ?_)
        have hl : lv_has ls 5 [(4, .int (nI (k + 1))), (3, .int 0), (0, .ref (qa_a y 22 0)), (1, .int (nI i)), (2, .int (nI j))] := hl
        refine lv_goto hx hb d_MD_twins_68 rfl ?_
        exact ih (k + 1) false ls (by omega) (qm_st_f hI (Or.inl (qb_e0 h31))) (lv_sub hl [0, 1, 2, 3, 4] rfl)
      · refine lv_aload_n hx hb d_MD_twins_34 rfl (lv_at hl 2 rfl) ?_
        refine qa_get (k := 22) (i := 0) (f := 14) (val := .ref (qa_a y 32 0)) E hC Nat.one_pos rfl rfl (by decide) f_MD_37 rfl rfl d_MD_twins_35 ?_
        refine lv_iconst (v := 4) hx hb d_MD_twins_38 (by decide) ?_
        refine lv_iload_n hx hb d_MD_twins_39 rfl (lv_at hl 3 rfl) ?_
        refine lv_imul hx hb d_MD_twins_40 ?_
        refine lv_iload hx hb d_MD_twins_41 (lv_at hl 0 rfl) ?_
        refine lv_iadd hx hb d_MD_twins_43 ?_
        refine qa_ild (k := 32) (i := 0) (j := ((4 * i) + k)) E hC Nat.one_pos rfl rfl (qn_add (qn_mul rfl rfl) rfl) (show (4 * i) + k < 32 by omega) d_MD_twins_44 ?_
        refine lv_aload_n hx hb d_MD_twins_45 rfl (lv_at hl 2 rfl) ?_
        refine qa_get (k := 22) (i := 0) (f := 14) (val := .ref (qa_a y 32 0)) E hC Nat.one_pos rfl rfl (by decide) f_MD_37 rfl rfl d_MD_twins_46 ?_
        refine lv_iconst (v := 4) hx hb d_MD_twins_49 (by decide) ?_
        refine lv_iload_n hx hb d_MD_twins_50 rfl (lv_at hl 4 rfl) ?_
        refine lv_imul hx hb d_MD_twins_51 ?_
        refine lv_iload hx hb d_MD_twins_52 (lv_at hl 0 rfl) ?_
        refine lv_iadd hx hb d_MD_twins_54 ?_
        refine qa_ild (k := 32) (i := 0) (j := ((4 * j) + k)) E hC Nat.one_pos rfl rfl (qn_add (qn_mul rfl rfl) rfl) (show (4 * j) + k < 32 by omega) d_MD_twins_55 ?_
        refine lv_icmp_ne hx hb d_MD_twins_56 rfl (fun h56 => ?_) (fun h56 => ?_)
        · refine lv_iconst (v := 0) hx hb d_MD_twins_63 (by decide) ?_
          refine lv_istore_n hx hb d_MD_twins_64 rfl hl (by decide) rfl (fun ls hl => ?_)
          have hl : lv_has ls 5 [(3, .int 0), (4, .int (nI k)), (0, .ref (qa_a y 22 0)), (1, .int (nI i)), (2, .int (nI j))] := hl
          refine lv_iinc (v := nI (k + 1)) hx hb d_MD_twins_65 hl (k := 1) rfl (nI_1 k) (by decide) rfl (fun ls hl => ?_)
          have hl : lv_has ls 5 [(4, .int (nI (k + 1))), (3, .int 0), (0, .ref (qa_a y 22 0)), (1, .int (nI i)), (2, .int (nI j))] := hl
          refine lv_goto hx hb d_MD_twins_68 rfl ?_
          exact ih (k + 1) false ls (by omega) (qm_st_f hI (Or.inr h56)) (lv_sub hl [0, 1, 2, 3, 4] rfl)
        · refine lv_iconst (v := 1) hx hb d_MD_twins_59 (by decide) ?_
          refine lv_goto hx hb d_MD_twins_60 rfl ?_
          refine lv_istore_n hx hb d_MD_twins_64 rfl hl (by decide) rfl (fun ls hl => ?_)
          have hl : lv_has ls 5 [(3, .int 1), (4, .int (nI k)), (0, .ref (qa_a y 22 0)), (1, .int (nI i)), (2, .int (nI j))] := hl
          refine lv_iinc (v := nI (k + 1)) hx hb d_MD_twins_65 hl (k := 1) rfl (nI_1 k) (by decide) rfl (fun ls hl => ?_)
          have hl : lv_has ls 5 [(4, .int (nI (k + 1))), (3, .int 1), (0, .ref (qa_a y 22 0)), (1, .int (nI i)), (2, .int (nI j))] := hl
          refine lv_goto hx hb d_MD_twins_68 rfl ?_
          exact ih (k + 1) true ls (by omega) (qm_st_t hI (qb_n0 h31) h56) (lv_sub hl [0, 1, 2, 3, 4] rfl)
  refine lv_aload_n hx hb d_MD_twins_0 rfl (lv_at hl 0 rfl) ?_
  refine qa_get (k := 22) (i := 0) (f := 10) (val := .ref (qa_a y 28 0)) E hC Nat.one_pos rfl rfl (by decide) f_MD_25 rfl rfl d_MD_twins_1 ?_
  refine lv_iload_n hx hb d_MD_twins_4 rfl (lv_at hl 1 rfl) ?_
  refine qa_ild (k := 28) (i := 0) (j := i) E hC Nat.one_pos rfl rfl rfl (show i < 7 by omega) d_MD_twins_5 ?_
  refine lv_aload_n hx hb d_MD_twins_6 rfl (lv_at hl 0 rfl) ?_
  refine qa_get (k := 22) (i := 0) (f := 10) (val := .ref (qa_a y 28 0)) E hC Nat.one_pos rfl rfl (by decide) f_MD_25 rfl rfl d_MD_twins_7 ?_
  refine lv_iload_n hx hb d_MD_twins_10 rfl (lv_at hl 2 rfl) ?_
  refine qa_ild (k := 28) (i := 0) (j := j) E hC Nat.one_pos rfl rfl rfl (show j < 7 by omega) d_MD_twins_11 ?_
  refine lv_icmp_ne hx hb d_MD_twins_12 rfl (fun h12 => ?_) (fun h12 => ?_)
  · refine lv_iconst (v := 0) hx hb d_MD_twins_19 (by decide) ?_
    refine lv_istore_n hx hb d_MD_twins_20 rfl hl (by decide) rfl (fun ls hl => ?_)
    have hl : lv_has ls 5 [(3, .int 0), (0, .ref (qa_a y 22 0)), (1, .int (nI i)), (2, .int (nI j))] := hl
    refine lv_iconst (v := 0) hx hb d_MD_twins_21 (by decide) ?_
    refine lv_istore hx hb d_MD_twins_22 hl (by decide) rfl (fun ls hl => ?_)
    have hl : lv_has ls 5 [(4, .int 0), (3, .int 0), (0, .ref (qa_a y 22 0)), (1, .int (nI i)), (2, .int (nI j))] := hl
    exact loop1 4 0 false ls (by omega) ⟨fun z => Bool.noConfusion z, fun z => absurd z.1 h12⟩ (lv_sub hl [0, 1, 2, 3, 4] rfl)
  · refine lv_iconst (v := 1) hx hb d_MD_twins_15 (by decide) ?_
    refine lv_goto hx hb d_MD_twins_16 rfl ?_
    refine lv_istore_n hx hb d_MD_twins_20 rfl hl (by decide) rfl (fun ls hl => ?_)
    have hl : lv_has ls 5 [(3, .int 1), (0, .ref (qa_a y 22 0)), (1, .int (nI i)), (2, .int (nI j))] := hl
    refine lv_iconst (v := 0) hx hb d_MD_twins_21 (by decide) ?_
    refine lv_istore hx hb d_MD_twins_22 hl (by decide) rfl (fun ls hl => ?_)
    have hl : lv_has ls 5 [(4, .int 0), (3, .int 1), (0, .ref (qa_a y 22 0)), (1, .int (nI i)), (2, .int (nI j))] := hl
    exact loop1 4 0 true ls (by omega) ⟨fun _ => ⟨h12, lt_0⟩, fun _ => rfl⟩ (lv_sub hl [0, 1, 2, 3, 4] rfl)

set_option maxHeartbeats 4000000 in
set_option maxRecDepth 100000 in
theorem c_MD_alike (l : Launch) (y : qa_L) (v : qa_M) (w : qa_M) (hR : qm_RM (qa_n y) w v) : qa_Pu l y_MD_alike b_MD_alike 4 (some .boolean) 1 [.ref (qa_a y 22 0)] (qa_W y v) (qb (qm_alv y w)) := by
  refine qa_ofPu (plainFor_of_name (by decide)) (Nat.le_of_ble_eq_true rfl) ?_
  intro p e s m below meth c ls F hr hlocks hW hl
  have E : qa_E p m c b_MD_alike 4 s _ "VotedFramesModel" y := ⟨F, hW.2⟩
  have hC : qa_C y v s s.heap [] := ⟨hW.1, va_S.rf⟩
  have hx := F.1
  have hb := F.2.1
  have hown : s.vm.findClass "VotedFramesModel" = some m.cls := F.2.2.2.1
  have hts := F.2.2.2.2
  have hn4 : 4 ≤ qa_n y := E.2.1.2.2.1
  have hn7 : qa_n y ≤ 7 := E.2.1.2.2.2.1
  have hl : lv_has ls 4 [(0, .ref (qa_a y 22 0))] := hl
  have loopA : ∀ (d k : Nat) (B : Bool) (ls : Array Slot), k + d = qa_n y → (B = true ↔ (True ∧ ∀ a, a < k → ∀ b, b < a → w 2 a 9 = 0 → w 2 b 9 = 0 → qm_alk y w a b = true)) → lv_has ls 4 [(2, .int (nI k)), (1, .int (qb B)), (0, .ref (qa_a y 22 0))] → W p l e (qa_R 1) s m [.ref (qa_a y 22 0)].toArray below meth c s.heap [] 0 0 (MQ below (QcRead (qb (qm_alv y w))) [.ref (qa_a y 22 0)].toArray s 0 0 (fun _ => False)) (F0 m 4 ls []) := by
    intro d
    induction d with
    | zero =>
      intro k B ls hkd hI hl
      obtain rfl : qa_n y = k := by omega
      refine lv_iload_n hx hb d_MD_alike_4 rfl (lv_at hl 0 rfl) ?_
      refine lv_aload_n hx hb d_MD_alike_5 rfl (lv_at hl 2 rfl) ?_
      refine qa_get (k := 22) (i := 0) (f := 0) (val := .int (nI (qa_n y))) E hC Nat.one_pos rfl rfl (by decide) f_MD_73 rfl rfl d_MD_alike_6 ?_
      refine lv_icmp_ge hx hb d_MD_alike_9 rfl (fun _ => ?_) (fun h9 => absurd (nI_le (Nat.le_refl _) (by omega)) h9)
      refine lv_iload_n hx hb d_MD_alike_68 rfl (lv_at hl 1 rfl) ?_
      exact qa_zret hx hb hr hlocks (congrArg qb (Bool.eq_iff_iff.mpr (hI.trans ⟨fun z => qm_alv_iff.mpr z.2, fun z => ⟨trivial, qm_alv_iff.mp z⟩⟩))) (qb_nar _) d_MD_alike_69
    | succ d ih =>
      intro k B ls hkd hI hl
      have hk : k < qa_n y := by omega
      refine lv_iload_n hx hb d_MD_alike_4 rfl (lv_at hl 0 rfl) ?_
      refine lv_aload_n hx hb d_MD_alike_5 rfl (lv_at hl 2 rfl) ?_
      refine qa_get (k := 22) (i := 0) (f := 0) (val := .int (nI (qa_n y))) E hC Nat.one_pos rfl rfl (by decide) f_MD_73 rfl rfl d_MD_alike_6 ?_
      refine lv_icmp_ge hx hb d_MD_alike_9 rfl (fun h9 => absurd h9 (nI_ge hk (by omega))) (fun _ => ?_)
      refine lv_iconst (v := 0) hx hb d_MD_alike_12 (by decide) ?_
      refine lv_istore_n hx hb d_MD_alike_13 rfl hl (by decide) rfl (fun ls hl => ?_)
      have hl : lv_has ls 4 [(3, .int 0), (2, .int (nI k)), (1, .int (qb B)), (0, .ref (qa_a y 22 0))] := hl
      have hA := hI
      have loopB : ∀ (d q : Nat) (B : Bool) (ls : Array Slot), q + d = k → (B = true ↔ ((True ∧ ∀ a, a < k → ∀ b, b < a → w 2 a 9 = 0 → w 2 b 9 = 0 → qm_alk y w a b = true) ∧ ∀ a, a < q → (w 2 k 9 = 0 → w 2 a 9 = 0 → qm_alk y w k a = true))) → lv_has ls 4 [(3, .int (nI q)), (2, .int (nI k)), (1, .int (qb B)), (0, .ref (qa_a y 22 0))] → W p l e (qa_R 1) s m [.ref (qa_a y 22 0)].toArray below meth c s.heap [] 0 0 (MQ below (QcRead (qb (qm_alv y w))) [.ref (qa_a y 22 0)].toArray s 0 0 (fun _ => False)) (F0 m 14 ls []) := by
        intro d
        induction d with
        | zero =>
          intro q B ls hkd hB hl
          obtain rfl : k = q := by omega
          refine lv_iload_n hx hb d_MD_alike_14 rfl (lv_at hl 0 rfl) ?_
          refine lv_iload_n hx hb d_MD_alike_15 rfl (lv_at hl 1 rfl) ?_
          refine lv_icmp_ge hx hb d_MD_alike_16 rfl (fun _ => ?_) (fun h9 => absurd (nI_le (Nat.le_refl _) (by omega)) h9)
          refine lv_iinc (v := nI (k + 1)) hx hb d_MD_alike_62 hl (k := 1) rfl (nI_1 k) (by decide) rfl (fun ls hl => ?_)
          have hl : lv_has ls 4 [(2, .int (nI (k + 1))), (3, .int (nI k)), (1, .int (qb B)), (0, .ref (qa_a y 22 0))] := hl
          refine lv_goto hx hb d_MD_alike_65 rfl ?_
          exact ih (k + 1) B ls (by omega) (hB.trans ⟨fun z => ⟨trivial, fun a ha => by
            by_cases q : a = k
            · subst q; exact z.2
            · exact z.1.2 a (by omega)⟩, fun z => ⟨⟨trivial, fun a ha => z.2 a (by omega)⟩, z.2 k (by omega)⟩⟩) (lv_sub hl [0, 2, 3] rfl)
        | succ d ihB =>
          intro q B ls hkd hB hl
          have hq : q < k := by omega
          refine lv_iload_n hx hb d_MD_alike_14 rfl (lv_at hl 0 rfl) ?_
          refine lv_iload_n hx hb d_MD_alike_15 rfl (lv_at hl 1 rfl) ?_
          refine lv_icmp_ge hx hb d_MD_alike_16 rfl (fun h9 => absurd h9 (nI_ge hq (by omega))) (fun _ => ?_)
          refine lv_aload_n hx hb d_MD_alike_19 rfl (lv_at hl 3 rfl) ?_
          refine qa_get (k := 22) (i := 0) (f := 8) (val := .ref (qa_a y 26 0)) E hC Nat.one_pos rfl rfl (by decide) f_MD_19 rfl rfl d_MD_alike_20 ?_
          refine lv_iload_n hx hb d_MD_alike_23 rfl (lv_at hl 1 rfl) ?_
          refine qa_ild (k := 26) (i := 0) (j := k) E hC Nat.one_pos rfl rfl rfl (show k < 7 by omega) d_MD_alike_24 ?_
          refine lv_if_ne hx hb d_MD_alike_25 rfl (fun h25 => ?_) (fun h25 => ?_)
          · refine lv_iinc (v := nI (q + 1)) hx hb d_MD_alike_56 hl (k := 0) rfl (nI_1 q) (by decide) rfl (fun ls hl => ?_)
            have hl : lv_has ls 4 [(3, .int (nI (q + 1))), (2, .int (nI k)), (1, .int (qb B)), (0, .ref (qa_a y 22 0))] := hl
            refine lv_goto hx hb d_MD_alike_59 rfl ?_
            exact ihB (q + 1) B ls (by omega) (qm_st_n' hB (fun z _ => absurd z (by rw [← qr_knd hR hk]; exact h25))) (lv_sub hl [0, 1, 2, 3] rfl)
          · refine lv_aload_n hx hb d_MD_alike_28 rfl (lv_at hl 3 rfl) ?_
            refine qa_get (k := 22) (i := 0) (f := 8) (val := .ref (qa_a y 26 0)) E hC Nat.one_pos rfl rfl (by decide) f_MD_19 rfl rfl d_MD_alike_29 ?_
            refine lv_iload_n hx hb d_MD_alike_32 rfl (lv_at hl 0 rfl) ?_
            refine qa_ild (k := 26) (i := 0) (j := q) E hC Nat.one_pos rfl rfl rfl (show q < 7 by omega) d_MD_alike_33 ?_
            refine lv_if_ne hx hb d_MD_alike_34 rfl (fun h34 => ?_) (fun h34 => ?_)
            · refine lv_iinc (v := nI (q + 1)) hx hb d_MD_alike_56 hl (k := 0) rfl (nI_1 q) (by decide) rfl (fun ls hl => ?_)
              have hl : lv_has ls 4 [(3, .int (nI (q + 1))), (2, .int (nI k)), (1, .int (qb B)), (0, .ref (qa_a y 22 0))] := hl
              refine lv_goto hx hb d_MD_alike_59 rfl ?_
              exact ihB (q + 1) B ls (by omega) (qm_st_n' hB (fun _ z => absurd z (by rw [← qr_knd hR (show q < qa_n y by omega)]; exact h34))) (lv_sub hl [0, 1, 2, 3] rfl)
            · refine lv_iload_n hx hb d_MD_alike_37 rfl (lv_at hl 2 rfl) ?_
              refine lv_if_eq hx hb d_MD_alike_38 rfl (fun h38 => ?_) (fun h38 => ?_)
              · refine lv_iconst (v := 0) hx hb d_MD_alike_54 (by decide) ?_
                refine lv_istore_n hx hb d_MD_alike_55 rfl hl (by decide) rfl (fun ls hl => ?_)
                have hl : lv_has ls 4 [(1, .int 0), (3, .int (nI q)), (2, .int (nI k)), (0, .ref (qa_a y 22 0))] := hl
                refine lv_iinc (v := nI (q + 1)) hx hb d_MD_alike_56 hl (k := 1) rfl (nI_1 q) (by decide) rfl (fun ls hl => ?_)
                have hl : lv_has ls 4 [(3, .int (nI (q + 1))), (1, .int 0), (2, .int (nI k)), (0, .ref (qa_a y 22 0))] := hl
                refine lv_goto hx hb d_MD_alike_59 rfl ?_
                have e25 : w 2 k 9 = 0 := by rw [← qr_knd hR hk]; exact h25
                have e34 : w 2 q 9 = 0 := by rw [← qr_knd hR (show q < qa_n y by omega)]; exact h34
                exact ihB (q + 1) false ls (by omega) (qm_st_f hB (Or.inl (qb_e0 h38))) (lv_sub hl [0, 2, 1, 3] rfl)
              · refine lv_aload_n hx hb d_MD_alike_41 rfl (lv_at hl 3 rfl) ?_
                refine lv_iload_n hx hb d_MD_alike_42 rfl (lv_at hl 1 rfl) ?_
                refine lv_iload_n hx hb d_MD_alike_43 rfl (lv_at hl 0 rfl) ?_
                refine qa_pV (k := 22) (i := 0) (As := [.int (nI k), .int (nI q)]) E hC (c_MD_twins l y v k q hk (show q < qa_n y by omega) w hR) Nat.one_pos rfl rfl k_MD_176 (qa_fitR (by decide) (by decide)) rfl hl.1 rfl (Nat.le_of_ble_eq_true rfl) d_MD_alike_44 ?_
                refine lv_if_eq hx hb d_MD_alike_47 rfl (fun h47 => ?_) (fun h47 => ?_)
                · refine lv_iconst (v := 0) hx hb d_MD_alike_54 (by decide) ?_
                  refine lv_istore_n hx hb d_MD_alike_55 rfl hl (by decide) rfl (fun ls hl => ?_)
                  have hl : lv_has ls 4 [(1, .int 0), (3, .int (nI q)), (2, .int (nI k)), (0, .ref (qa_a y 22 0))] := hl
                  refine lv_iinc (v := nI (q + 1)) hx hb d_MD_alike_56 hl (k := 1) rfl (nI_1 q) (by decide) rfl (fun ls hl => ?_)
                  have hl : lv_has ls 4 [(3, .int (nI (q + 1))), (1, .int 0), (2, .int (nI k)), (0, .ref (qa_a y 22 0))] := hl
                  refine lv_goto hx hb d_MD_alike_59 rfl ?_
                  have e25 : w 2 k 9 = 0 := by rw [← qr_knd hR hk]; exact h25
                  have e34 : w 2 q 9 = 0 := by rw [← qr_knd hR (show q < qa_n y by omega)]; exact h34
                  exact ihB (q + 1) false ls (by omega) (qm_st_f hB (Or.inr (fun z => by have z2 := z e25 e34; rw [qb_e0 h47] at z2; cases z2))) (lv_sub hl [0, 2, 1, 3] rfl)
                · refine lv_iconst (v := 1) hx hb d_MD_alike_50 (by decide) ?_
                  refine lv_goto hx hb d_MD_alike_51 rfl ?_
                  refine lv_istore_n hx hb d_MD_alike_55 rfl hl (by decide) rfl (fun ls hl => ?_)
                  have hl : lv_has ls 4 [(1, .int 1), (3, .int (nI q)), (2, .int (nI k)), (0, .ref (qa_a y 22 0))] := hl
                  refine lv_iinc (v := nI (q + 1)) hx hb d_MD_alike_56 hl (k := 1) rfl (nI_1 q) (by decide) rfl (fun ls hl => ?_)
                  have hl : lv_has ls 4 [(3, .int (nI (q + 1))), (1, .int 1), (2, .int (nI k)), (0, .ref (qa_a y 22 0))] := hl
                  refine lv_goto hx hb d_MD_alike_59 rfl ?_
                  have e25 : w 2 k 9 = 0 := by rw [← qr_knd hR hk]; exact h25
                  have e34 : w 2 q 9 = 0 := by rw [← qr_knd hR (show q < qa_n y by omega)]; exact h34
                  exact ihB (q + 1) true ls (by omega) (qm_st_t hB (qb_n0 h38) (fun _ _ => qb_n0 h47)) (lv_sub hl [0, 2, 1, 3] rfl)
      exact loopB k 0 B ls (by omega) (hA.trans ⟨fun z => ⟨z, lt_0⟩, fun z => z.1⟩) (lv_sub hl [0, 1, 2, 3] rfl)
  refine lv_iconst (v := 1) hx hb d_MD_alike_0 (by decide) ?_
  refine lv_istore_n hx hb d_MD_alike_1 rfl hl (by decide) rfl (fun ls hl => ?_)
  have hl : lv_has ls 4 [(1, .int 1), (0, .ref (qa_a y 22 0))] := hl
  refine lv_iconst (v := 0) hx hb d_MD_alike_2 (by decide) ?_
  refine lv_istore_n hx hb d_MD_alike_3 rfl hl (by decide) rfl (fun ls hl => ?_)
  have hl : lv_has ls 4 [(2, .int 0), (1, .int 1), (0, .ref (qa_a y 22 0))] := hl
  exact loopA (qa_n y) 0 true ls (by omega) ⟨fun _ => ⟨trivial, lt_0⟩, fun _ => rfl⟩ (lv_sub hl [0, 1, 2] rfl)
