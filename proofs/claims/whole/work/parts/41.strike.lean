set_option maxHeartbeats 4000000 in
set_option maxRecDepth 100000 in
theorem c_VF_convictedBy (l : Launch) (y : qa_L) (v : qa_M) (i : Nat) (hi : i < qa_n y) : qa_Pu l y_VF_convictedBy b_VF_convictedBy 5 (some .int) 3 [.ref (qa_a y 0 0), .ref (qa_a y 2 i)] (qa_W y v) (qm_cv y v i (qa_n y)) := by
  refine qa_ofPu (plainFor_of_name (by decide)) (Nat.le_of_ble_eq_true rfl) ?_
  intro p e s m below meth c ls F hr hlocks hW hl
  have E : qa_E p m c b_VF_convictedBy 5 s _ "VotedFrames" y := ⟨F, hW.2⟩
  have hC : qa_C y v s s.heap [] := ⟨hW.1, va_S.rf⟩
  have hx := F.1
  have hb := F.2.1
  have hown : s.vm.findClass "VotedFrames" = some m.cls := F.2.2.2.1
  have hts := F.2.2.2.2
  have hn4 : 4 ≤ qa_n y := E.2.1.2.2.1
  have hn7 : qa_n y ≤ 7 := E.2.1.2.2.2.1
  have hl : lv_has ls 5 [(0, .ref (qa_a y 0 0)), (1, .ref (qa_a y 2 i))] := hl
  have loop : ∀ (d k : Nat) (ls : Array Slot), k + d = qa_n y → lv_has ls 5 [(4, .int (nI k)), (3, .int (qm_cv y v i k)), (2, .int (qm_bear (qa_m y) (v 2 i 11) + 1)), (0, .ref (qa_a y 0 0)), (1, .ref (qa_a y 2 i))] → W p l e (qa_R 3) s m [.ref (qa_a y 0 0), .ref (qa_a y 2 i)].toArray below meth c s.heap [] 0 0 (MQ below (QcRead (qm_cv y v i (qa_n y))) [.ref (qa_a y 0 0), .ref (qa_a y 2 i)].toArray s 0 0 (fun _ => False)) (F0 m 16 ls []) := by
    intro d
    induction d with
    | zero =>
      intro k ls hkd hl
      obtain rfl : qa_n y = k := by omega
      refine lv_iload hx hb d_VF_convictedBy_16 (lv_at hl 0 rfl) ?_
      refine lv_aload_n hx hb d_VF_convictedBy_18 rfl (lv_at hl 3 rfl) ?_
      refine qa_get (k := 0) (i := 0) (f := 0) (val := .int (nI (qa_n y))) E hC Nat.one_pos rfl rfl (by decide) f_VF_13 rfl rfl d_VF_convictedBy_19 ?_
      refine lv_icmp_ge hx hb d_VF_convictedBy_22 rfl (fun _ => ?_) (fun h9 => absurd (nI_le (Nat.le_refl _) (by omega)) h9)
      refine lv_iload_n hx hb d_VF_convictedBy_69 rfl (lv_at hl 1 rfl) ?_
      exact qa_iret hx hb hr hlocks rfl d_VF_convictedBy_70
    | succ d ih =>
      intro k ls hkd hl
      have hk : k < qa_n y := by omega
      refine lv_iload hx hb d_VF_convictedBy_16 (lv_at hl 0 rfl) ?_
      refine lv_aload_n hx hb d_VF_convictedBy_18 rfl (lv_at hl 3 rfl) ?_
      refine qa_get (k := 0) (i := 0) (f := 0) (val := .int (nI (qa_n y))) E hC Nat.one_pos rfl rfl (by decide) f_VF_13 rfl rfl d_VF_convictedBy_19 ?_
      refine lv_icmp_ge hx hb d_VF_convictedBy_22 rfl (fun h9 => absurd h9 (nI_ge hk (by omega))) (fun _ => ?_)
      refine lv_iload hx hb d_VF_convictedBy_25 (lv_at hl 0 rfl) ?_
      refine lv_aload_n hx hb d_VF_convictedBy_27 rfl (lv_at hl 4 rfl) ?_
      refine qa_get (k := 2) (i := i) (f := 0) (val := .int (nI i)) E hC hi rfl rfl (by decide) f_VF_236 rfl rfl d_VF_convictedBy_28 ?_
      refine lv_icmp_eq hx hb d_VF_convictedBy_31 rfl (fun h31 => ?_) (fun h31 => ?_)
      · refine lv_iinc (v := nI (k + 1)) hx hb d_VF_convictedBy_63 hl (k := 0) rfl (nI_1 k) (by decide) rfl (fun ls hl => ?_)
        have hl : lv_has ls 5 [(4, .int (nI (k + 1))), (3, .int (qm_cv y v i k)), (2, .int (qm_bear (qa_m y) (v 2 i 11) + 1)), (0, .ref (qa_a y 0 0)), (1, .ref (qa_a y 2 i))] := hl
        refine lv_goto hx hb d_VF_convictedBy_66 rfl ?_
        have e5 : qm_cv y v i (k + 1) = qm_cv y v i k := if_neg (fun z => z.1 ((nI_eq (by omega) (by omega)).mp h31))
        refine ih (k + 1) ls (by omega) ?_
        rw [e5]
        exact lv_sub hl [0, 1, 2, 3, 4] rfl
      · refine lv_aload_n hx hb d_VF_convictedBy_34 rfl (lv_at hl 4 rfl) ?_
        refine qa_get (k := 2) (i := i) (f := 11) (val := .int (v 2 i 11)) E hC hi rfl rfl (by decide) f_VF_142 rfl rfl d_VF_convictedBy_35 ?_
        refine lv_iload hx hb d_VF_convictedBy_38 (lv_at hl 0 rfl) ?_
        refine qa_pT (As := [.int (v 2 i 11), .int (nI k)]) F (c_VF_contains l (v 2 i 11) (nI k)) k_VF_239 (qa_fitR (by decide) (by decide)) rfl hl.1 rfl (Nat.le_of_ble_eq_true rfl) d_VF_convictedBy_40 ?_
        refine lv_if_eq hx hb d_VF_convictedBy_43 rfl (fun h43 => ?_) (fun h43 => ?_)
        · refine lv_iinc (v := nI (k + 1)) hx hb d_VF_convictedBy_63 hl (k := 0) rfl (nI_1 k) (by decide) rfl (fun ls hl => ?_)
          have hl : lv_has ls 5 [(4, .int (nI (k + 1))), (3, .int (qm_cv y v i k)), (2, .int (qm_bear (qa_m y) (v 2 i 11) + 1)), (0, .ref (qa_a y 0 0)), (1, .ref (qa_a y 2 i))] := hl
          refine lv_goto hx hb d_VF_convictedBy_66 rfl ?_
          have e5 : qm_cv y v i (k + 1) = qm_cv y v i k := if_neg (fun z => by rw [z.2.1] at h43; exact absurd h43 (by decide))
          refine ih (k + 1) ls (by omega) ?_
          rw [e5]
          exact lv_sub hl [0, 1, 2, 3, 4] rfl
        · refine lv_aload_n hx hb d_VF_convictedBy_46 rfl (lv_at hl 4 rfl) ?_
          refine lv_iload hx hb d_VF_convictedBy_47 (lv_at hl 0 rfl) ?_
          refine qa_pV (k := 2) (i := i) (As := [.int (nI k)]) E hC (c_ND_accusersOf l y v i k hi hk) hi rfl rfl k_VF_253 (qa_fitR (by decide) (by decide)) rfl hl.1 rfl (Nat.le_of_ble_eq_true rfl) d_VF_convictedBy_49 ?_
          refine lv_iload_n hx hb d_VF_convictedBy_52 rfl (lv_at hl 2 rfl) ?_
          refine lv_icmp_lt hx hb d_VF_convictedBy_53 rfl (fun h53 => ?_) (fun h53 => ?_)
          · refine lv_iinc (v := nI (k + 1)) hx hb d_VF_convictedBy_63 hl (k := 0) rfl (nI_1 k) (by decide) rfl (fun ls hl => ?_)
            have hl : lv_has ls 5 [(4, .int (nI (k + 1))), (3, .int (qm_cv y v i k)), (2, .int (qm_bear (qa_m y) (v 2 i 11) + 1)), (0, .ref (qa_a y 0 0)), (1, .ref (qa_a y 2 i))] := hl
            refine lv_goto hx hb d_VF_convictedBy_66 rfl ?_
            have e5 : qm_cv y v i (k + 1) = qm_cv y v i k := if_neg (fun z => z.2.2 h53)
            refine ih (k + 1) ls (by omega) ?_
            rw [e5]
            exact lv_sub hl [0, 1, 2, 3, 4] rfl
          · refine lv_iload_n hx hb d_VF_convictedBy_56 rfl (lv_at hl 1 rfl) ?_
            refine lv_iconst (v := 1) hx hb d_VF_convictedBy_57 (by decide) ?_
            refine lv_iload hx hb d_VF_convictedBy_58 (lv_at hl 0 rfl) ?_
            refine lv_ishl hx hb d_VF_convictedBy_60 ?_
            refine lv_ior hx hb d_VF_convictedBy_61 ?_
            refine lv_istore_n hx hb d_VF_convictedBy_62 rfl hl (by decide) rfl (fun ls hl => ?_)
            have hl : lv_has ls 5 [(3, .int ((qm_cv y v i k) ||| ((1 : Int32) <<< ((nI k) &&& 31)))), (4, .int (nI k)), (2, .int (qm_bear (qa_m y) (v 2 i 11) + 1)), (0, .ref (qa_a y 0 0)), (1, .ref (qa_a y 2 i))] := hl
            refine lv_iinc (v := nI (k + 1)) hx hb d_VF_convictedBy_63 hl (k := 1) rfl (nI_1 k) (by decide) rfl (fun ls hl => ?_)
            have hl : lv_has ls 5 [(4, .int (nI (k + 1))), (3, .int ((qm_cv y v i k) ||| ((1 : Int32) <<< ((nI k) &&& 31)))), (2, .int (qm_bear (qa_m y) (v 2 i 11) + 1)), (0, .ref (qa_a y 0 0)), (1, .ref (qa_a y 2 i))] := hl
            refine lv_goto hx hb d_VF_convictedBy_66 rfl ?_
            have e5 : qm_cv y v i (k + 1) = qm_ad (qm_cv y v i k) k := if_pos ⟨fun z => h31 (by rw [z]), qb_n0 h43, h53⟩
            refine ih (k + 1) ls (by omega) ?_
            rw [e5]
            exact lv_sub hl [0, 1, 2, 3, 4] rfl
  refine lv_aload_n hx hb d_VF_convictedBy_0 rfl (lv_at hl 1 rfl) ?_
  refine lv_aload_n hx hb d_VF_convictedBy_1 rfl (lv_at hl 0 rfl) ?_
  refine qa_get (k := 0) (i := 0) (f := 1) (val := .int (nI (qa_m y))) E hC Nat.one_pos rfl rfl (by decide) f_VF_21 rfl rfl d_VF_convictedBy_2 ?_
  refine qa_pV (k := 2) (i := i) (As := [.int (nI (qa_m y))]) E hC (c_ND_bearable l y v i (nI (qa_m y)) hi) hi rfl rfl k_VF_145 (qa_fitR (by decide) (by decide)) rfl hl.1 rfl (Nat.le_of_ble_eq_true rfl) d_VF_convictedBy_5 ?_
  refine lv_iconst (v := 1) hx hb d_VF_convictedBy_8 (by decide) ?_
  refine lv_iadd hx hb d_VF_convictedBy_9 ?_
  refine lv_istore_n hx hb d_VF_convictedBy_10 rfl hl (by decide) rfl (fun ls hl => ?_)
  have hl : lv_has ls 5 [(2, .int ((qm_min (nI (qa_m y)) ((qm_bc (v 2 i 11) - 1) / 3)) + 1)), (0, .ref (qa_a y 0 0)), (1, .ref (qa_a y 2 i))] := hl
  refine lv_iconst (v := 0) hx hb d_VF_convictedBy_11 (by decide) ?_
  refine lv_istore_n hx hb d_VF_convictedBy_12 rfl hl (by decide) rfl (fun ls hl => ?_)
  have hl : lv_has ls 5 [(3, .int 0), (2, .int ((qm_min (nI (qa_m y)) ((qm_bc (v 2 i 11) - 1) / 3)) + 1)), (0, .ref (qa_a y 0 0)), (1, .ref (qa_a y 2 i))] := hl
  refine lv_iconst (v := 0) hx hb d_VF_convictedBy_13 (by decide) ?_
  refine lv_istore hx hb d_VF_convictedBy_14 hl (by decide) rfl (fun ls hl => ?_)
  have hl : lv_has ls 5 [(4, .int 0), (3, .int 0), (2, .int ((qm_min (nI (qa_m y)) ((qm_bc (v 2 i 11) - 1) / 3)) + 1)), (0, .ref (qa_a y 0 0)), (1, .ref (qa_a y 2 i))] := hl
  exact loop (qa_n y) 0 ls (by omega) (lv_sub hl [0, 1, 2, 3, 4] rfl)

set_option maxHeartbeats 4000000 in
set_option maxRecDepth 100000 in
theorem c_VF_strikeOut (l : Launch) (y : qa_L) (v : qa_M) : qa_Mi l y_VF_strikeOut b_VF_strikeOut 4 (some .int) 4 [.ref (qa_a y 0 0)] y v (fun r u => r = qm_sk y v (qa_n y) ∧ u = qm_P4 y v) := by
  refine qa_ofMi (plainFor_of_name (by decide)) (Nat.le_of_ble_eq_true rfl) ?_
  intro p e s m below meth c ls E hr hlocks hC hl
  have E : qa_E p m c b_VF_strikeOut 4 s _ "VotedFrames" y := E
  have F := E.1
  have hx := F.1
  have hb := F.2.1
  have hown : s.vm.findClass "VotedFrames" = some m.cls := F.2.2.2.1
  have hts := F.2.2.2.2
  have hn4 : 4 ≤ qa_n y := E.2.1.2.2.1
  have hn7 : qa_n y ≤ 7 := E.2.1.2.2.2.1
  have hl : lv_has ls 4 [(0, .ref (qa_a y 0 0))] := hl
  have loop : ∀ (d i : Nat) (u : qa_M) (H : Heap) (locs : List Loc) (ls : Array Slot), i + d = qa_n y → qa_C y u s H locs → ((∀ a b f, ¬ (a = 2 ∧ b < i ∧ f = 11) → u a b f = v a b f) ∧ ∀ b, b < i → u 2 b 11 = v 2 b 11 &&& (qm_cv y v b (qa_n y) ^^^ (-1))) → lv_has ls 4 [(2, .int (nI i)), (1, .int (qm_sk y v i)), (0, .ref (qa_a y 0 0))] → W p l e (qa_R 4) s m [.ref (qa_a y 0 0)].toArray below meth c H locs 0 0 (MQ below (va_Qi (fun r u => r = qm_sk y v (qa_n y) ∧ u = qm_P4 y v) (fun u t => qa_W y u t) (qa_A y)) [.ref (qa_a y 0 0)].toArray s 0 0 (qa_A y)) (F0 m 4 ls []) := by
    intro d
    induction d with
    | zero =>
      intro i u H locs ls hkd hC hI hl
      obtain rfl : qa_n y = i := by omega
      refine lv_iload_n hx hb d_VF_strikeOut_4 rfl (lv_at hl 0 rfl) ?_
      refine lv_aload_n hx hb d_VF_strikeOut_5 rfl (lv_at hl 2 rfl) ?_
      refine qa_get (k := 0) (i := 0) (f := 0) (val := .int (nI (qa_n y))) E hC Nat.one_pos rfl rfl (by decide) f_VF_13 rfl rfl d_VF_strikeOut_6 ?_
      refine lv_icmp_ge hx hb d_VF_strikeOut_9 rfl (fun _ => ?_) (fun h9 => absurd (nI_le (Nat.le_refl _) (by omega)) h9)
      refine lv_iload_n hx hb d_VF_strikeOut_53 rfl (lv_at hl 1 rfl) ?_
      exact qa_mret E hC hr hlocks ⟨rfl, by
          funext a b f
          unfold qm_P4
          by_cases c1 : a = 2 ∧ b < qa_n y ∧ f = 11
          · rw [if_pos c1]
            obtain ⟨rfl, hb9, rfl⟩ := c1
            exact hI.2 b hb9
          · rw [if_neg c1]
            exact hI.1 a b f c1⟩ d_VF_strikeOut_54
    | succ d ih =>
      intro i u H locs ls hkd hC hI hl
      have hi : i < qa_n y := by omega
      refine lv_iload_n hx hb d_VF_strikeOut_4 rfl (lv_at hl 0 rfl) ?_
      refine lv_aload_n hx hb d_VF_strikeOut_5 rfl (lv_at hl 2 rfl) ?_
      refine qa_get (k := 0) (i := 0) (f := 0) (val := .int (nI (qa_n y))) E hC Nat.one_pos rfl rfl (by decide) f_VF_13 rfl rfl d_VF_strikeOut_6 ?_
      refine lv_icmp_ge hx hb d_VF_strikeOut_9 rfl (fun h9 => absurd h9 (nI_ge hi (by omega))) (fun _ => ?_)
      refine lv_aload_n hx hb d_VF_strikeOut_12 rfl (lv_at hl 2 rfl) ?_
      refine lv_aload_n hx hb d_VF_strikeOut_13 rfl (lv_at hl 2 rfl) ?_
      refine qa_get (k := 0) (i := 0) (f := 3) (val := .ref (qa_a y 1 0)) E hC Nat.one_pos rfl rfl (by decide) f_VF_31 rfl rfl d_VF_strikeOut_14 ?_
      refine lv_iload_n hx hb d_VF_strikeOut_17 rfl (lv_at hl 0 rfl) ?_
      refine qa_ald (k := 1) (i := 0) (j := i) E hC Nat.one_pos rfl rfl rfl rfl rfl hi d_VF_strikeOut_18 ?_
      refine qa_pV (k := 0) (i := 0) (As := [.ref (qa_a y 2 i)]) E hC (c_VF_convictedBy l y u i hi) Nat.one_pos rfl rfl k_VF_245 (qa_fitR (by decide) (by decide)) rfl hl.1 rfl (Nat.le_of_ble_eq_true rfl) d_VF_strikeOut_19 ?_
      have m11 : u 2 i 11 = v 2 i 11 := hI.1 2 i 11 (by omega)
      have ecv : qm_cv y u i (qa_n y) = qm_cv y v i (qa_n y) := qm_cv_n m11 (fun k => hI.1 6 i k (by omega)) _
      rw [ecv]
      refine lv_istore_n hx hb d_VF_strikeOut_22 rfl hl (by decide) rfl (fun ls hl => ?_)
      have hl : lv_has ls 4 [(3, .int (qm_cv y v i (qa_n y))), (2, .int (nI i)), (1, .int (qm_sk y v i)), (0, .ref (qa_a y 0 0))] := hl
      refine lv_aload_n hx hb d_VF_strikeOut_23 rfl (lv_at hl 3 rfl) ?_
      refine qa_get (k := 0) (i := 0) (f := 3) (val := .ref (qa_a y 1 0)) E hC Nat.one_pos rfl rfl (by decide) f_VF_31 rfl rfl d_VF_strikeOut_24 ?_
      refine lv_iload_n hx hb d_VF_strikeOut_27 rfl (lv_at hl 1 rfl) ?_
      refine qa_ald (k := 1) (i := 0) (j := i) E hC Nat.one_pos rfl rfl rfl rfl rfl hi d_VF_strikeOut_28 ?_
      refine lv_dup hx hb d_VF_strikeOut_29 rfl ?_
      refine qa_get (k := 2) (i := i) (f := 11) (val := .int (u 2 i 11)) E hC hi rfl rfl (by decide) f_VF_142 rfl rfl d_VF_strikeOut_30 ?_
      refine lv_iload_n hx hb d_VF_strikeOut_33 rfl (lv_at hl 0 rfl) ?_
      refine lv_iconst (v := -1) hx hb d_VF_strikeOut_34 (by decide) ?_
      refine lv_ixor hx hb d_VF_strikeOut_35 ?_
      refine lv_iand hx hb d_VF_strikeOut_36 ?_
      refine qa_put (k := 2) (i := i) (f := 11) E hC hi rfl rfl (by decide) f_VF_142 rfl rfl rfl rfl d_VF_strikeOut_37 (fun H locs hC => ?_)
      refine lv_iload_n hx hb d_VF_strikeOut_40 rfl (lv_at hl 2 rfl) ?_
      refine lv_iload_n hx hb d_VF_strikeOut_41 rfl (lv_at hl 0 rfl) ?_
      refine qa_pT (As := [.int (qm_cv y v i (qa_n y))]) F (c_JI_bitCount l (qm_cv y v i (qa_n y))) k_VF_248 (qa_fitR (by decide) (by decide)) rfl hl.1 rfl (Nat.le_of_ble_eq_true rfl) d_VF_strikeOut_42 ?_
      refine lv_iadd hx hb d_VF_strikeOut_45 ?_
      refine lv_istore_n hx hb d_VF_strikeOut_46 rfl hl (by decide) rfl (fun ls hl => ?_)
      have hl : lv_has ls 4 [(1, .int ((qm_sk y v i) + (qm_bc (qm_cv y v i (qa_n y))))), (3, .int (qm_cv y v i (qa_n y))), (2, .int (nI i)), (0, .ref (qa_a y 0 0))] := hl
      refine lv_iinc (v := nI (i + 1)) hx hb d_VF_strikeOut_47 hl (k := 2) rfl (nI_1 i) (by decide) rfl (fun ls hl => ?_)
      have hl : lv_has ls 4 [(2, .int (nI (i + 1))), (1, .int ((qm_sk y v i) + (qm_bc (qm_cv y v i (qa_n y))))), (3, .int (qm_cv y v i (qa_n y))), (0, .ref (qa_a y 0 0))] := hl
      refine lv_goto hx hb d_VF_strikeOut_50 rfl ?_
      refine ih (i + 1) _ H locs ls (by omega) hC ⟨fun a b f h => ?_, lt_s (fun b hb => ?_) ?_⟩ (lv_sub hl [0, 1, 3] rfl)
      · rw [show qa_up u 2 i 11 _ a b f = u a b f by simp only [qa_up]; rw [if_neg]; exact fun z => h ⟨z.1, by omega, z.2.2⟩]; exact hI.1 a b f (fun z => h ⟨z.1, by omega, z.2.2⟩)
      · rw [qa_up_i (by omega)]; exact hI.2 b hb
      · rw [qa_up_s, m11]
  refine lv_iconst (v := 0) hx hb d_VF_strikeOut_0 (by decide) ?_
  refine lv_istore_n hx hb d_VF_strikeOut_1 rfl hl (by decide) rfl (fun ls hl => ?_)
  have hl : lv_has ls 4 [(1, .int 0), (0, .ref (qa_a y 0 0))] := hl
  refine lv_iconst (v := 0) hx hb d_VF_strikeOut_2 (by decide) ?_
  refine lv_istore_n hx hb d_VF_strikeOut_3 rfl hl (by decide) rfl (fun ls hl => ?_)
  have hl : lv_has ls 4 [(2, .int 0), (1, .int 0), (0, .ref (qa_a y 0 0))] := hl
  exact loop (qa_n y) 0 v _ _ ls (by omega) hC ⟨fun _ _ _ _ => rfl, lt_0⟩ (lv_sub hl [0, 1, 2] rfl)
