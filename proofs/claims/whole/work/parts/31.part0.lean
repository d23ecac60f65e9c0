set_option maxHeartbeats 4000000 in
set_option maxRecDepth 100000 in
theorem c_VF_openLines (l : Launch) (y : qa_L) (v : qa_M) : qa_Mv l y_VF_openLines b_VF_openLines 4 3 [.ref (qa_a y 0 0)] y v (fun u => u = qm_P0 y v) := by
  refine qa_ofMv (plainFor_of_name (by decide)) (Nat.le_of_ble_eq_true rfl) ?_
  intro p e s m below meth c ls E hr hlocks hC hl
  have E : qa_E p m c b_VF_openLines 4 s _ "VotedFrames" y := E
  have F := E.1
  have hx := F.1
  have hb := F.2.1
  have hown : s.vm.findClass "VotedFrames" = some m.cls := F.2.2.2.1
  have hts := F.2.2.2.2
  have hn4 : 4 ≤ qa_n y := E.2.1.2.2.1
  have hn7 : qa_n y ≤ 7 := E.2.1.2.2.2.1
  have hl : lv_has ls 4 [(0, .ref (qa_a y 0 0))] := hl
  have loop : ∀ (d i : Nat) (u : qa_M) (H : Heap) (locs : List Loc) (ls : Array Slot), i + d = qa_n y → qa_C y u s H locs → ((∀ a b f, ¬ (a = 2 ∧ b < i ∧ f = 12) → u a b f = v a b f) ∧ ∀ c, c < i → u 2 c 12 = qm_hm y v c (qa_n y)) → lv_has ls 4 [(1, .int (nI i)), (0, .ref (qa_a y 0 0))] → W p l e (qa_R 3) s m [.ref (qa_a y 0 0)].toArray below meth c H locs 0 0 (MQ below (va_Qv (fun u => u = qm_P0 y v) (fun u t => qa_W y u t) (qa_A y)) [.ref (qa_a y 0 0)].toArray s 0 0 (qa_A y)) (F0 m 2 ls []) := by
    intro d
    induction d with
    | zero =>
      intro i u H locs ls hkd hC hI hl
      obtain rfl : qa_n y = i := by omega
      refine lv_iload_n hx hb d_VF_openLines_2 rfl (lv_at hl 0 rfl) ?_
      refine lv_aload_n hx hb d_VF_openLines_3 rfl (lv_at hl 1 rfl) ?_
      refine qa_get (k := 0) (i := 0) (f := 0) (val := .int (nI (qa_n y))) E hC Nat.one_pos rfl rfl (by decide) f_VF_13 rfl rfl d_VF_openLines_4 ?_
      refine lv_icmp_ge hx hb d_VF_openLines_7 rfl (fun _ => ?_) (fun h9 => absurd (nI_le (Nat.le_refl _) (by omega)) h9)
      exact qa_mvret E hC hr hlocks (by
          funext a b f
          unfold qm_P0
          by_cases c1 : a = 2 ∧ b < qa_n y ∧ f = 12
          · rw [if_pos c1]
            obtain ⟨rfl, hb9, rfl⟩ := c1
            exact hI.2 b hb9
          · rw [if_neg c1]
            exact hI.1 a b f c1) d_VF_openLines_80
    | succ d ih =>
      intro i u H locs ls hkd hC hI hl
      have hi : i < qa_n y := by omega
      refine lv_iload_n hx hb d_VF_openLines_2 rfl (lv_at hl 0 rfl) ?_
      refine lv_aload_n hx hb d_VF_openLines_3 rfl (lv_at hl 1 rfl) ?_
      refine qa_get (k := 0) (i := 0) (f := 0) (val := .int (nI (qa_n y))) E hC Nat.one_pos rfl rfl (by decide) f_VF_13 rfl rfl d_VF_openLines_4 ?_
      refine lv_icmp_ge hx hb d_VF_openLines_7 rfl (fun h9 => absurd h9 (nI_ge hi (by omega))) (fun _ => ?_)
      refine lv_iconst (v := 0) hx hb d_VF_openLines_10 (by decide) ?_
      refine lv_istore_n hx hb d_VF_openLines_11 rfl hl (by decide) rfl (fun ls hl => ?_)
      have hl : lv_has ls 4 [(2, .int 0), (1, .int (nI i)), (0, .ref (qa_a y 0 0))] := hl
      refine lv_iconst (v := 0) hx hb d_VF_openLines_12 (by decide) ?_
      refine lv_istore_n hx hb d_VF_openLines_13 rfl hl (by decide) rfl (fun ls hl => ?_)
      have hl : lv_has ls 4 [(3, .int 0), (2, .int 0), (1, .int (nI i)), (0, .ref (qa_a y 0 0))] := hl
      have loop2 : ∀ (d j : Nat) (ls : Array Slot), j + d = qa_n y → lv_has ls 4 [(3, .int (nI j)), (2, .int (qm_hm y v i j)), (1, .int (nI i)), (0, .ref (qa_a y 0 0))] → W p l e (qa_R 3) s m [.ref (qa_a y 0 0)].toArray below meth c H locs 0 0 (MQ below (va_Qv (fun u => u = qm_P0 y v) (fun u t => qa_W y u t) (qa_A y)) [.ref (qa_a y 0 0)].toArray s 0 0 (qa_A y)) (F0 m 14 ls []) := by
        intro d
        induction d with
        | zero =>
          intro j ls hkd hl
          obtain rfl : qa_n y = j := by omega
          refine lv_iload_n hx hb d_VF_openLines_14 rfl (lv_at hl 0 rfl) ?_
          refine lv_aload_n hx hb d_VF_openLines_15 rfl (lv_at hl 3 rfl) ?_
          refine qa_get (k := 0) (i := 0) (f := 0) (val := .int (nI (qa_n y))) E hC Nat.one_pos rfl rfl (by decide) f_VF_13 rfl rfl d_VF_openLines_16 ?_
          refine lv_icmp_ge hx hb d_VF_openLines_19 rfl (fun _ => ?_) (fun h9 => absurd (nI_le (Nat.le_refl _) (by omega)) h9)
          refine lv_aload_n hx hb d_VF_openLines_64 rfl (lv_at hl 3 rfl) ?_
          refine qa_get (k := 0) (i := 0) (f := 3) (val := .ref (qa_a y 1 0)) E hC Nat.one_pos rfl rfl (by decide) f_VF_31 rfl rfl d_VF_openLines_65 ?_
          refine lv_iload_n hx hb d_VF_openLines_68 rfl (lv_at hl 2 rfl) ?_
          refine qa_ald (k := 1) (i := 0) (j := i) E hC Nat.one_pos rfl rfl rfl rfl rfl hi d_VF_openLines_69 ?_
          refine lv_iload_n hx hb d_VF_openLines_70 rfl (lv_at hl 1 rfl) ?_
          refine qa_put (k := 2) (i := i) (f := 12) E hC hi rfl rfl (by decide) f_VF_198 rfl rfl rfl rfl d_VF_openLines_71 (fun H locs hC => ?_)
          refine lv_iinc (v := nI (i + 1)) hx hb d_VF_openLines_74 hl (k := 2) rfl (nI_1 i) (by decide) rfl (fun ls hl => ?_)
          have hl : lv_has ls 4 [(1, .int (nI (i + 1))), (3, .int (nI (qa_n y))), (2, .int (qm_hm y v i (qa_n y))), (0, .ref (qa_a y 0 0))] := hl
          refine lv_goto hx hb d_VF_openLines_77 rfl ?_
          refine ih (i + 1) _ H locs ls (by omega) hC ⟨fun a b f h => ?_, lt_s (fun a ha => ?_) ?_⟩ (lv_sub hl [0, 3] rfl)
          · rw [show qa_up u 2 i 12 (qm_hm y v i (qa_n y)) a b f = u a b f by simp only [qa_up]; rw [if_neg]; exact fun z => h ⟨z.1, by omega, z.2.2⟩]; exact hI.1 a b f (fun z => h ⟨z.1, by omega, z.2.2⟩)
          · rw [qa_up_i (by omega)]; exact hI.2 a ha
          · exact qa_up_s
        | succ d ih2 =>
          intro j ls hkd hl
          have hj : j < qa_n y := by omega
          refine lv_iload_n hx hb d_VF_openLines_14 rfl (lv_at hl 0 rfl) ?_
          refine lv_aload_n hx hb d_VF_openLines_15 rfl (lv_at hl 3 rfl) ?_
          refine qa_get (k := 0) (i := 0) (f := 0) (val := .int (nI (qa_n y))) E hC Nat.one_pos rfl rfl (by decide) f_VF_13 rfl rfl d_VF_openLines_16 ?_
          refine lv_icmp_ge hx hb d_VF_openLines_19 rfl (fun h9 => absurd h9 (nI_ge hj (by omega))) (fun _ => ?_)
          refine lv_iload_n hx hb d_VF_openLines_22 rfl (lv_at hl 0 rfl) ?_
          refine lv_iload_n hx hb d_VF_openLines_23 rfl (lv_at hl 2 rfl) ?_
          refine lv_icmp_eq hx hb d_VF_openLines_24 rfl (fun h24 => ?_) (fun h24 => ?_)
          · refine lv_iinc (v := nI (j + 1)) hx hb d_VF_openLines_58 hl (k := 0) rfl (nI_1 j) (by decide) rfl (fun ls hl => ?_)
            have hl : lv_has ls 4 [(3, .int (nI (j + 1))), (2, .int (qm_hm y v i j)), (1, .int (nI i)), (0, .ref (qa_a y 0 0))] := hl
            refine lv_goto hx hb d_VF_openLines_61 rfl ?_
            have e5 : qm_hm y v i (j + 1) = qm_hm y v i j := if_neg (fun z => z.1 ((nI_eq (by omega) (by omega)).mp h24))
            refine ih2 (j + 1) ls (by omega) ?_
            rw [e5]
            exact lv_sub hl [0, 1, 2, 3] rfl
          · have hre : qm_hr y u j i = qm_hr y v j i := qm_hr_n (fun a f hf => hI.1 2 a f (fun z => hf z.2.2)) (hI.1 3 i j (fun z => absurd z.1 (by decide)))
            refine lv_aload_n hx hb d_VF_openLines_27 rfl (lv_at hl 3 rfl) ?_
            refine qa_get (k := 0) (i := 0) (f := 3) (val := .ref (qa_a y 1 0)) E hC Nat.one_pos rfl rfl (by decide) f_VF_31 rfl rfl d_VF_openLines_28 ?_
            refine lv_iload_n hx hb d_VF_openLines_31 rfl (lv_at hl 2 rfl) ?_
            refine qa_ald (k := 1) (i := 0) (j := i) E hC Nat.one_pos rfl rfl rfl rfl rfl hi d_VF_openLines_32 ?_
            refine lv_aload_n hx hb d_VF_openLines_33 rfl (lv_at hl 3 rfl) ?_
            refine qa_get (k := 0) (i := 0) (f := 3) (val := .ref (qa_a y 1 0)) E hC Nat.one_pos rfl rfl (by decide) f_VF_31 rfl rfl d_VF_openLines_34 ?_
            refine lv_iload_n hx hb d_VF_openLines_37 rfl (lv_at hl 0 rfl) ?_
            refine qa_ald (k := 1) (i := 0) (j := j) E hC Nat.one_pos rfl rfl rfl rfl rfl hj d_VF_openLines_38 ?_
            refine lv_aload_n hx hb d_VF_openLines_39 rfl (lv_at hl 3 rfl) ?_
            refine qa_get (k := 0) (i := 0) (f := 2) (val := .int (qa_d y)) E hC Nat.one_pos rfl rfl (by decide) f_VF_24 rfl rfl d_VF_openLines_40 ?_
            refine lv_bipush (v := 20) hx hb d_VF_openLines_43 (by decide) ?_
            refine lv_iadd hx hb d_VF_openLines_45 ?_
            refine qa_pV (k := 2) (i := i) (As := [.ref (qa_a y 2 j), .int ((qa_d y) + 20)]) E hC (c_ND_canHear l y u i j ((qa_d y) + 20) hi hj) hi rfl rfl k_VF_194 (qa_fitR (by decide) (by decide)) rfl hl.1 rfl (Nat.le_of_ble_eq_true rfl) d_VF_openLines_46 ?_
            refine lv_if_eq hx hb d_VF_openLines_49 rfl (fun h49 => ?_) (fun h49 => ?_)
            · refine lv_iinc (v := nI (j + 1)) hx hb d_VF_openLines_58 hl (k := 0) rfl (nI_1 j) (by decide) rfl (fun ls hl => ?_)
              have hl : lv_has ls 4 [(3, .int (nI (j + 1))), (2, .int (qm_hm y v i j)), (1, .int (nI i)), (0, .ref (qa_a y 0 0))] := hl
              refine lv_goto hx hb d_VF_openLines_61 rfl ?_
              have e5 : qm_hm y v i (j + 1) = qm_hm y v i j := if_neg (fun z => by have h8 : qb (qm_hr y u j i) = 0 := h49; rw [hre, z.2] at h8; exact absurd h8 (by decide))
              refine ih2 (j + 1) ls (by omega) ?_
              rw [e5]
              exact lv_sub hl [0, 1, 2, 3] rfl
            · refine lv_iload_n hx hb d_VF_openLines_52 rfl (lv_at hl 1 rfl) ?_
              refine lv_iconst (v := 1) hx hb d_VF_openLines_53 (by decide) ?_
              refine lv_iload_n hx hb d_VF_openLines_54 rfl (lv_at hl 0 rfl) ?_
              refine lv_ishl hx hb d_VF_openLines_55 ?_
              refine lv_ior hx hb d_VF_openLines_56 ?_
              refine lv_istore_n hx hb d_VF_openLines_57 rfl hl (by decide) rfl (fun ls hl => ?_)
              have hl : lv_has ls 4 [(2, .int ((qm_hm y v i j) ||| ((1 : Int32) <<< ((nI j) &&& 31)))), (3, .int (nI j)), (1, .int (nI i)), (0, .ref (qa_a y 0 0))] := hl
              refine lv_iinc (v := nI (j + 1)) hx hb d_VF_openLines_58 hl (k := 1) rfl (nI_1 j) (by decide) rfl (fun ls hl => ?_)
              have hl : lv_has ls 4 [(3, .int (nI (j + 1))), (2, .int ((qm_hm y v i j) ||| ((1 : Int32) <<< ((nI j) &&& 31)))), (1, .int (nI i)), (0, .ref (qa_a y 0 0))] := hl
              refine lv_goto hx hb d_VF_openLines_61 rfl ?_
              have e5 : qm_hm y v i (j + 1) = qm_ad (qm_hm y v i j) j := if_pos ⟨fun z => h24 (by rw [z]), by rw [← hre]; exact qb_n0 h49⟩
              refine ih2 (j + 1) ls (by omega) ?_
              rw [e5]
              exact lv_sub hl [0, 1, 2, 3] rfl
      exact loop2 (qa_n y) 0 ls (by omega) (lv_sub hl [0, 1, 2, 3] rfl)
  refine lv_iconst (v := 0) hx hb d_VF_openLines_0 (by decide) ?_
  refine lv_istore_n hx hb d_VF_openLines_1 rfl hl (by decide) rfl (fun ls hl => ?_)
  have hl : lv_has ls 4 [(1, .int 0), (0, .ref (qa_a y 0 0))] := hl
  exact loop (qa_n y) 0 v _ _ ls (by omega) hC ⟨fun _ _ _ _ => rfl, lt_0⟩ (lv_sub hl [0, 1] rfl)
