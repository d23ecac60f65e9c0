set_option maxHeartbeats 4000000 in
set_option maxRecDepth 100000 in
theorem c_MD_spread (l : Launch) (y : qa_L) (v : qa_M) (w : qa_M) (hR : qm_RM (qa_n y) w v) (hcok : qm_cok (qa_n y) w) : qa_Pu l y_MD_spread b_MD_spread 5 (some .int) 0 [.ref (qa_a y 22 0)] (qa_W y v) (qm_spd (qa_n y) w) := by
  refine qa_ofPu (plainFor_of_name (by decide)) (Nat.le_of_ble_eq_true rfl) ?_
  intro p e s m below meth c ls F hr hlocks hW hl
  have E : qa_E p m c b_MD_spread 5 s _ "VotedFramesModel" y := ⟨F, hW.2⟩
  have hC : qa_C y v s s.heap [] := ⟨hW.1, va_S.rf⟩
  have hx := F.1
  have hb := F.2.1
  have hown : s.vm.findClass "VotedFramesModel" = some m.cls := F.2.2.2.1
  have hts := F.2.2.2.2
  have hn4 : 4 ≤ qa_n y := E.2.1.2.2.1
  have hn7 : qa_n y ≤ 7 := E.2.1.2.2.2.1
  have hl : lv_has ls 5 [(0, .ref (qa_a y 22 0))] := hl
  have loopA : ∀ (d k : Nat) (mo : Int32) (ls : Array Slot), k + d = qa_n y → ((∀ a, a < k → ∀ b, b < qa_n y → w 2 a 9 = 0 → w 2 b 9 = 0 → w 2 a 6 - w 2 b 6 ≤ mo) ∧ 0 ≤ mo ∧ (mo = 0 ∨ ∃ a b, a < qa_n y ∧ b < qa_n y ∧ w 2 a 9 = 0 ∧ w 2 b 9 = 0 ∧ mo = w 2 a 6 - w 2 b 6)) → lv_has ls 5 [(2, .int (nI k)), (1, .int mo), (0, .ref (qa_a y 22 0))] → W p l e (qa_R 0) s m [.ref (qa_a y 22 0)].toArray below meth c s.heap [] 0 0 (MQ below (QcRead (qm_spd (qa_n y) w)) [.ref (qa_a y 22 0)].toArray s 0 0 (fun _ => False)) (F0 m 4 ls []) := by
    intro d
    induction d with
    | zero =>
      intro k mo ls hkd hI hl
      obtain rfl : qa_n y = k := by omega
      refine lv_iload_n hx hb d_MD_spread_4 rfl (lv_at hl 0 rfl) ?_
      refine lv_aload_n hx hb d_MD_spread_5 rfl (lv_at hl 2 rfl) ?_
      refine qa_get (k := 22) (i := 0) (f := 0) (val := .int (nI (qa_n y))) E hC Nat.one_pos rfl rfl (by decide) f_MD_73 rfl rfl d_MD_spread_6 ?_
      refine lv_icmp_ge hx hb d_MD_spread_9 rfl (fun _ => ?_) (fun h9 => absurd (nI_le (Nat.le_refl _) (by omega)) h9)
      refine lv_iload_n hx hb d_MD_spread_76 rfl (lv_at hl 1 rfl) ?_
      exact qa_iret hx hb hr hlocks (qm_spd_eq hcok hI.1 hI.2.1 hI.2.2) d_MD_spread_77
    | succ d ih =>
      intro k mo ls hkd hI hl
      have hk : k < qa_n y := by omega
      refine lv_iload_n hx hb d_MD_spread_4 rfl (lv_at hl 0 rfl) ?_
      refine lv_aload_n hx hb d_MD_spread_5 rfl (lv_at hl 2 rfl) ?_
      refine qa_get (k := 22) (i := 0) (f := 0) (val := .int (nI (qa_n y))) E hC Nat.one_pos rfl rfl (by decide) f_MD_73 rfl rfl d_MD_spread_6 ?_
      refine lv_icmp_ge hx hb d_MD_spread_9 rfl (fun h9 => absurd h9 (nI_ge hk (by omega))) (fun _ => ?_)
      refine lv_iconst (v := 0) hx hb d_MD_spread_12 (by decide) ?_
      refine lv_istore_n hx hb d_MD_spread_13 rfl hl (by decide) rfl (fun ls hl => ?_)
      have hl : lv_has ls 5 [(3, .int 0), (2, .int (nI k)), (1, .int mo), (0, .ref (qa_a y 22 0))] := hl
      have hA := hI
      have loopB : ∀ (d q : Nat) (mo : Int32) (ls : Array Slot), q + d = qa_n y → (((∀ a, a < k → ∀ b, b < qa_n y → w 2 a 9 = 0 → w 2 b 9 = 0 → w 2 a 6 - w 2 b 6 ≤ mo) ∧ (∀ b, b < q → w 2 k 9 = 0 → w 2 b 9 = 0 → w 2 k 6 - w 2 b 6 ≤ mo)) ∧ 0 ≤ mo ∧ (mo = 0 ∨ ∃ a b, a < qa_n y ∧ b < qa_n y ∧ w 2 a 9 = 0 ∧ w 2 b 9 = 0 ∧ mo = w 2 a 6 - w 2 b 6)) → lv_has ls 5 [(3, .int (nI q)), (2, .int (nI k)), (1, .int mo), (0, .ref (qa_a y 22 0))] → W p l e (qa_R 0) s m [.ref (qa_a y 22 0)].toArray below meth c s.heap [] 0 0 (MQ below (QcRead (qm_spd (qa_n y) w)) [.ref (qa_a y 22 0)].toArray s 0 0 (fun _ => False)) (F0 m 14 ls []) := by
        intro d
        induction d with
        | zero =>
          intro q mo ls hkd hB hl
          obtain rfl : qa_n y = q := by omega
          refine lv_iload_n hx hb d_MD_spread_14 rfl (lv_at hl 0 rfl) ?_
          refine lv_aload_n hx hb d_MD_spread_15 rfl (lv_at hl 3 rfl) ?_
          refine qa_get (k := 22) (i := 0) (f := 0) (val := .int (nI (qa_n y))) E hC Nat.one_pos rfl rfl (by decide) f_MD_73 rfl rfl d_MD_spread_16 ?_
          refine lv_icmp_ge hx hb d_MD_spread_19 rfl (fun _ => ?_) (fun h9 => absurd (nI_le (Nat.le_refl _) (by omega)) h9)
          refine lv_iinc (v := nI (k + 1)) hx hb d_MD_spread_70 hl (k := 1) rfl (nI_1 k) (by decide) rfl (fun ls hl => ?_)
          have hl : lv_has ls 5 [(2, .int (nI (k + 1))), (3, .int (nI (qa_n y))), (1, .int mo), (0, .ref (qa_a y 22 0))] := hl
          refine lv_goto hx hb d_MD_spread_73 rfl ?_
          exact ih (k + 1) mo ls (by omega) ⟨fun a ha b hb9 z1 z2 => by
            by_cases e : a = k
            · subst e; exact hB.1.2 b hb9 z1 z2
            · exact hB.1.1 a (by omega) b hb9 z1 z2, hB.2⟩ (lv_sub hl [0, 2, 3] rfl)
        | succ d ihB =>
          intro q mo ls hkd hB hl
          have hq : q < qa_n y := by omega
          refine lv_iload_n hx hb d_MD_spread_14 rfl (lv_at hl 0 rfl) ?_
          refine lv_aload_n hx hb d_MD_spread_15 rfl (lv_at hl 3 rfl) ?_
          refine qa_get (k := 22) (i := 0) (f := 0) (val := .int (nI (qa_n y))) E hC Nat.one_pos rfl rfl (by decide) f_MD_73 rfl rfl d_MD_spread_16 ?_
          refine lv_icmp_ge hx hb d_MD_spread_19 rfl (fun h9 => absurd h9 (nI_ge hq (by omega))) (fun _ => ?_)
          refine lv_aload_n hx hb d_MD_spread_22 rfl (lv_at hl 3 rfl) ?_
          refine qa_get (k := 22) (i := 0) (f := 5) (val := .ref (qa_a y 23 0)) E hC Nat.one_pos rfl rfl (by decide) f_MD_7 rfl rfl d_MD_spread_23 ?_
          refine lv_iload_n hx hb d_MD_spread_26 rfl (lv_at hl 1 rfl) ?_
          refine qa_ild (k := 23) (i := 0) (j := k) E hC Nat.one_pos rfl rfl rfl (show k < 7 by omega) d_MD_spread_27 ?_
          refine lv_aload_n hx hb d_MD_spread_28 rfl (lv_at hl 3 rfl) ?_
          refine qa_get (k := 22) (i := 0) (f := 5) (val := .ref (qa_a y 23 0)) E hC Nat.one_pos rfl rfl (by decide) f_MD_7 rfl rfl d_MD_spread_29 ?_
          refine lv_iload_n hx hb d_MD_spread_32 rfl (lv_at hl 0 rfl) ?_
          refine qa_ild (k := 23) (i := 0) (j := q) E hC Nat.one_pos rfl rfl rfl (show q < 7 by omega) d_MD_spread_33 ?_
          refine lv_isub hx hb d_MD_spread_34 ?_
          refine lv_istore hx hb d_MD_spread_35 hl (by decide) rfl (fun ls hl => ?_)
          have hl : lv_has ls 5 [(4, .int ((v 23 0 k) - (v 23 0 q))), (3, .int (nI q)), (2, .int (nI k)), (1, .int mo), (0, .ref (qa_a y 22 0))] := hl
          refine lv_aload_n hx hb d_MD_spread_37 rfl (lv_at hl 4 rfl) ?_
          refine qa_get (k := 22) (i := 0) (f := 8) (val := .ref (qa_a y 26 0)) E hC Nat.one_pos rfl rfl (by decide) f_MD_19 rfl rfl d_MD_spread_38 ?_
          refine lv_iload_n hx hb d_MD_spread_41 rfl (lv_at hl 2 rfl) ?_
          refine qa_ild (k := 26) (i := 0) (j := k) E hC Nat.one_pos rfl rfl rfl (show k < 7 by omega) d_MD_spread_42 ?_
          refine lv_if_ne hx hb d_MD_spread_43 rfl (fun h43 => ?_) (fun h43 => ?_)
          · refine lv_iinc (v := nI (q + 1)) hx hb d_MD_spread_64 hl (k := 1) rfl (nI_1 q) (by decide) rfl (fun ls hl => ?_)
            have hl : lv_has ls 5 [(3, .int (nI (q + 1))), (4, .int ((v 23 0 k) - (v 23 0 q))), (2, .int (nI k)), (1, .int mo), (0, .ref (qa_a y 22 0))] := hl
            refine lv_goto hx hb d_MD_spread_67 rfl ?_
            refine ihB (q + 1) mo ls (by omega) ⟨⟨hB.1.1, fun b hb9 z1 z2 => ?_⟩, hB.2⟩ (lv_sub hl [0, 2, 3, 4] rfl)
            by_cases e : b = q
            · subst e; exact absurd z1 (by rw [← qr_knd hR hk]; exact h43)
            · exact hB.1.2 b (by omega) z1 z2
          · refine lv_aload_n hx hb d_MD_spread_46 rfl (lv_at hl 4 rfl) ?_
            refine qa_get (k := 22) (i := 0) (f := 8) (val := .ref (qa_a y 26 0)) E hC Nat.one_pos rfl rfl (by decide) f_MD_19 rfl rfl d_MD_spread_47 ?_
            refine lv_iload_n hx hb d_MD_spread_50 rfl (lv_at hl 1 rfl) ?_
            refine qa_ild (k := 26) (i := 0) (j := q) E hC Nat.one_pos rfl rfl rfl (show q < 7 by omega) d_MD_spread_51 ?_
            refine lv_if_ne hx hb d_MD_spread_52 rfl (fun h52 => ?_) (fun h52 => ?_)
            · refine lv_iinc (v := nI (q + 1)) hx hb d_MD_spread_64 hl (k := 1) rfl (nI_1 q) (by decide) rfl (fun ls hl => ?_)
              have hl : lv_has ls 5 [(3, .int (nI (q + 1))), (4, .int ((v 23 0 k) - (v 23 0 q))), (2, .int (nI k)), (1, .int mo), (0, .ref (qa_a y 22 0))] := hl
              refine lv_goto hx hb d_MD_spread_67 rfl ?_
              refine ihB (q + 1) mo ls (by omega) ⟨⟨hB.1.1, fun b hb9 z1 z2 => ?_⟩, hB.2⟩ (lv_sub hl [0, 2, 3, 4] rfl)
              by_cases e : b = q
              · subst e; exact absurd z2 (by rw [← qr_knd hR hq]; exact h52)
              · exact hB.1.2 b (by omega) z1 z2
            · refine lv_iload hx hb d_MD_spread_55 (lv_at hl 0 rfl) ?_
              refine lv_iload_n hx hb d_MD_spread_57 rfl (lv_at hl 3 rfl) ?_
              refine lv_icmp_le hx hb d_MD_spread_58 rfl (fun h58 => ?_) (fun h58 => ?_)
              · refine lv_iinc (v := nI (q + 1)) hx hb d_MD_spread_64 hl (k := 1) rfl (nI_1 q) (by decide) rfl (fun ls hl => ?_)
                have hl : lv_has ls 5 [(3, .int (nI (q + 1))), (4, .int ((v 23 0 k) - (v 23 0 q))), (2, .int (nI k)), (1, .int mo), (0, .ref (qa_a y 22 0))] := hl
                refine lv_goto hx hb d_MD_spread_67 rfl ?_
                refine ihB (q + 1) mo ls (by omega) ⟨⟨hB.1.1, fun b hb9 z1 z2 => ?_⟩, hB.2⟩ (lv_sub hl [0, 2, 3, 4] rfl)
                by_cases e : b = q
                · subst e; rw [← qr_clk hR hk, ← qr_clk hR hq]; exact h58
                · exact hB.1.2 b (by omega) z1 z2
              · refine lv_iload hx hb d_MD_spread_61 (lv_at hl 0 rfl) ?_
                refine lv_istore_n hx hb d_MD_spread_63 rfl hl (by decide) rfl (fun ls hl => ?_)
                have hl : lv_has ls 5 [(1, .int ((v 23 0 k) - (v 23 0 q))), (4, .int ((v 23 0 k) - (v 23 0 q))), (3, .int (nI q)), (2, .int (nI k)), (0, .ref (qa_a y 22 0))] := hl
                refine lv_iinc (v := nI (q + 1)) hx hb d_MD_spread_64 hl (k := 2) rfl (nI_1 q) (by decide) rfl (fun ls hl => ?_)
                have hl : lv_has ls 5 [(3, .int (nI (q + 1))), (1, .int ((v 23 0 k) - (v 23 0 q))), (4, .int ((v 23 0 k) - (v 23 0 q))), (2, .int (nI k)), (0, .ref (qa_a y 22 0))] := hl
                refine lv_goto hx hb d_MD_spread_67 rfl ?_
                have e1 : v 23 0 k - v 23 0 q = w 2 k 6 - w 2 q 6 := by rw [qr_clk hR hk, qr_clk hR hq]
                have h9 : mo < v 23 0 k - v 23 0 q := qm_lt h58
                refine ihB (q + 1) (v 23 0 k - v 23 0 q) ls (by omega) ⟨⟨fun a ha b hb9 z1 z2 => qm_lel (hB.1.1 a ha b hb9 z1 z2) h9, fun b hb9 z1 z2 => ?_⟩, qm_lel hB.2.1 h9, Or.inr ⟨k, q, hk, hq, by rw [← qr_knd hR hk]; exact h43, by rw [← qr_knd hR hq]; exact h52, e1⟩⟩ (lv_sub hl [0, 3, 1, 4] rfl)
                by_cases e : b = q
                · subst e; rw [e1]; exact Int32.le_refl _
                · exact qm_lel (hB.1.2 b (by omega) z1 z2) h9
      exact loopB (qa_n y) 0 mo ls (by omega) ⟨⟨hA.1, lt_0⟩, hA.2⟩ (lv_sub hl [0, 1, 2, 3] rfl)
  refine lv_iconst (v := 0) hx hb d_MD_spread_0 (by decide) ?_
  refine lv_istore_n hx hb d_MD_spread_1 rfl hl (by decide) rfl (fun ls hl => ?_)
  have hl : lv_has ls 5 [(1, .int 0), (0, .ref (qa_a y 22 0))] := hl
  refine lv_iconst (v := 0) hx hb d_MD_spread_2 (by decide) ?_
  refine lv_istore_n hx hb d_MD_spread_3 rfl hl (by decide) rfl (fun ls hl => ?_)
  have hl : lv_has ls 5 [(2, .int 0), (1, .int 0), (0, .ref (qa_a y 22 0))] := hl
  exact loopA (qa_n y) 0 0 ls (by omega) ⟨lt_0, Int32.le_refl _, Or.inl rfl⟩ (lv_sub hl [0, 1, 2] rfl)
