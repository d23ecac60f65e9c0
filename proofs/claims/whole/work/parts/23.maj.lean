set_option maxHeartbeats 4000000 in
set_option maxRecDepth 100000 in
theorem c_VF_majorityPlace_21 (l : Launch) (y : qa_L) (v : qa_M) (sz : Nat) (st : Int32) (hs : sz ≤ qa_n y) : qa_Pu l y_VF_majorityPlace b_VF_majorityPlace 6 (some .int) 0 [.ref (qa_a y 21 0), .int (nI sz), .int st] (qa_W y v) (qm_mp (v 21 0) sz st) := by
  refine qa_ofPu (plainFor_of_name (by decide)) (Nat.le_of_ble_eq_true rfl) ?_
  intro p e s m below meth c ls F hr hlocks hW hl
  have E : qa_E p m c b_VF_majorityPlace 6 s _ "VotedFrames" y := ⟨F, hW.2⟩
  have hC : qa_C y v s s.heap [] := ⟨hW.1, va_S.rf⟩
  have hx := F.1
  have hb := F.2.1
  have hown : s.vm.findClass "VotedFrames" = some m.cls := F.2.2.2.1
  have hts := F.2.2.2.2
  have hn4 : 4 ≤ qa_n y := E.2.1.2.2.1
  have hn7 : qa_n y ≤ 7 := E.2.1.2.2.2.1
  have hl : lv_has ls 6 [(0, .ref (qa_a y 21 0)), (1, .int (nI sz)), (2, .int st)] := hl
  have loop : ∀ (d k : Nat) (ls : Array Slot), k + d = sz → (∀ p, p < k → 2 * nI (qm_cs (v 21 0) (v 21 0 p) p (sz - p)) ≤ st) → lv_has ls 6 [(3, .int (nI k)), (0, .ref (qa_a y 21 0)), (1, .int (nI sz)), (2, .int st)] → W p l e (qa_R 0) s m [.ref (qa_a y 21 0), .int (nI sz), .int st].toArray below meth c s.heap [] 0 0 (MQ below (QcRead (qm_mp (v 21 0) sz st)) [.ref (qa_a y 21 0), .int (nI sz), .int st].toArray s 0 0 (fun _ => False)) (F0 m 2 ls []) := by
    intro d
    induction d with
    | zero =>
      intro k ls hkd hI hl
      obtain rfl : sz = k := by omega
      refine lv_iload_n hx hb d_VF_majorityPlace_2 rfl (lv_at hl 0 rfl) ?_
      refine lv_iload_n hx hb d_VF_majorityPlace_3 rfl (lv_at hl 2 rfl) ?_
      refine lv_icmp_ge hx hb d_VF_majorityPlace_4 rfl (fun _ => ?_) (fun h9 => absurd (nI_le (Nat.le_refl _) (by omega)) h9)
      refine lv_iconst (v := -1) hx hb d_VF_majorityPlace_54 (by decide) ?_
      exact qa_iret hx hb hr hlocks ((qm_mp_no hI).symm) d_VF_majorityPlace_55
    | succ d ih =>
      intro k ls hkd hI hl
      have hk : k < sz := by omega
      have hkn : k < qa_n y := by omega
      refine lv_iload_n hx hb d_VF_majorityPlace_2 rfl (lv_at hl 0 rfl) ?_
      refine lv_iload_n hx hb d_VF_majorityPlace_3 rfl (lv_at hl 2 rfl) ?_
      refine lv_icmp_ge hx hb d_VF_majorityPlace_4 rfl (fun h9 => absurd h9 (nI_ge hk (by omega))) (fun _ => ?_)
      refine lv_iconst (v := 0) hx hb d_VF_majorityPlace_7 (by decide) ?_
      refine lv_istore hx hb d_VF_majorityPlace_8 hl (by decide) rfl (fun ls hl => ?_)
      have hl : lv_has ls 6 [(4, .int 0), (3, .int (nI k)), (0, .ref (qa_a y 21 0)), (1, .int (nI sz)), (2, .int st)] := hl
      refine lv_iload_n hx hb d_VF_majorityPlace_10 rfl (lv_at hl 1 rfl) ?_
      refine lv_istore hx hb d_VF_majorityPlace_11 hl (by decide) rfl (fun ls hl => ?_)
      have hl : lv_has ls 6 [(5, .int (nI k)), (4, .int 0), (3, .int (nI k)), (0, .ref (qa_a y 21 0)), (1, .int (nI sz)), (2, .int st)] := hl
      have hI1 := hI
      have loop2 : ∀ (d q : Nat) (ls : Array Slot), q + d = sz → (k ≤ q) → lv_has ls 6 [(5, .int (nI q)), (4, .int (nI (qm_cs (v 21 0) (v 21 0 k) k (q - k)))), (3, .int (nI k)), (0, .ref (qa_a y 21 0)), (1, .int (nI sz)), (2, .int st)] → W p l e (qa_R 0) s m [.ref (qa_a y 21 0), .int (nI sz), .int st].toArray below meth c s.heap [] 0 0 (MQ below (QcRead (qm_mp (v 21 0) sz st)) [.ref (qa_a y 21 0), .int (nI sz), .int st].toArray s 0 0 (fun _ => False)) (F0 m 13 ls []) := by
        intro d
        induction d with
        | zero =>
          intro q ls hkd hI hl
          obtain rfl : sz = q := by omega
          refine lv_iload hx hb d_VF_majorityPlace_13 (lv_at hl 0 rfl) ?_
          refine lv_iload_n hx hb d_VF_majorityPlace_15 rfl (lv_at hl 4 rfl) ?_
          refine lv_icmp_ge hx hb d_VF_majorityPlace_16 rfl (fun _ => ?_) (fun h9 => absurd (nI_le (Nat.le_refl _) (by omega)) h9)
          refine lv_iconst (v := 2) hx hb d_VF_majorityPlace_38 (by decide) ?_
          refine lv_iload hx hb d_VF_majorityPlace_39 (lv_at hl 1 rfl) ?_
          refine lv_imul hx hb d_VF_majorityPlace_41 ?_
          refine lv_iload_n hx hb d_VF_majorityPlace_42 rfl (lv_at hl 5 rfl) ?_
          refine lv_icmp_le hx hb d_VF_majorityPlace_43 rfl (fun h43 => ?_) (fun h43 => ?_)
          · refine lv_iinc (v := nI (k + 1)) hx hb d_VF_majorityPlace_48 hl (k := 2) rfl (nI_1 k) (by decide) rfl (fun ls hl => ?_)
            have hl : lv_has ls 6 [(3, .int (nI (k + 1))), (5, .int (nI sz)), (4, .int (nI (qm_cs (v 21 0) (v 21 0 k) k (sz - k)))), (0, .ref (qa_a y 21 0)), (1, .int (nI sz)), (2, .int st)] := hl
            refine lv_goto hx hb d_VF_majorityPlace_51 rfl ?_
            exact ih (k + 1) ls (by omega) (lt_s hI1 h43) (lv_sub hl [0, 3, 4, 5] rfl)
          · refine lv_iload_n hx hb d_VF_majorityPlace_46 rfl (lv_at hl 2 rfl) ?_
            exact qa_iret hx hb hr hlocks ((qm_mp_at hk hI1 (qm_lt h43)).symm) d_VF_majorityPlace_47
        | succ d ih2 =>
          intro q ls hkd hI hl
          have hq : q < sz := by omega
          have hqn : q < qa_n y := by omega
          refine lv_iload hx hb d_VF_majorityPlace_13 (lv_at hl 0 rfl) ?_
          refine lv_iload_n hx hb d_VF_majorityPlace_15 rfl (lv_at hl 4 rfl) ?_
          refine lv_icmp_ge hx hb d_VF_majorityPlace_16 rfl (fun h9 => absurd h9 (nI_ge hq (by omega))) (fun _ => ?_)
          refine lv_aload_n hx hb d_VF_majorityPlace_19 rfl (lv_at hl 3 rfl) ?_
          refine lv_iload hx hb d_VF_majorityPlace_20 (lv_at hl 0 rfl) ?_
          refine qa_ild (k := 21) (i := 0) (j := q) E hC Nat.one_pos rfl rfl rfl hqn d_VF_majorityPlace_22 ?_
          refine lv_aload_n hx hb d_VF_majorityPlace_23 rfl (lv_at hl 3 rfl) ?_
          refine lv_iload_n hx hb d_VF_majorityPlace_24 rfl (lv_at hl 2 rfl) ?_
          refine qa_ild (k := 21) (i := 0) (j := k) E hC Nat.one_pos rfl rfl rfl hkn d_VF_majorityPlace_25 ?_
          refine lv_icmp_ne hx hb d_VF_majorityPlace_26 rfl (fun h26 => ?_) (fun h26 => ?_)
          · refine lv_iinc (v := nI (q + 1)) hx hb d_VF_majorityPlace_32 hl (k := 0) rfl (nI_1 q) (by decide) rfl (fun ls hl => ?_)
            have hl : lv_has ls 6 [(5, .int (nI (q + 1))), (4, .int (nI (qm_cs (v 21 0) (v 21 0 k) k (q - k)))), (3, .int (nI k)), (0, .ref (qa_a y 21 0)), (1, .int (nI sz)), (2, .int st)] := hl
            refine lv_goto hx hb d_VF_majorityPlace_35 rfl ?_
            have e9 : q + 1 - k = (q - k) + 1 := by omega
            have e8 : k + (q - k) = q := by omega
            have e5 : qm_cs (v 21 0) (v 21 0 k) k (q + 1 - k) = qm_cs (v 21 0) (v 21 0 k) k (q - k) := by rw [e9, qm_cs, e8, if_neg h26]
            refine ih2 (q + 1) ls (by omega) (by omega) ?_
            rw [e5]
            exact lv_sub hl [0, 1, 2, 3, 4, 5] rfl
          · refine lv_iinc (v := nI ((qm_cs (v 21 0) (v 21 0 k) k (q - k)) + 1)) hx hb d_VF_majorityPlace_29 hl (k := 1) rfl (nI_1 (qm_cs (v 21 0) (v 21 0 k) k (q - k))) (by decide) rfl (fun ls hl => ?_)
            have hl : lv_has ls 6 [(4, .int (nI ((qm_cs (v 21 0) (v 21 0 k) k (q - k)) + 1))), (5, .int (nI q)), (3, .int (nI k)), (0, .ref (qa_a y 21 0)), (1, .int (nI sz)), (2, .int st)] := hl
            refine lv_iinc (v := nI (q + 1)) hx hb d_VF_majorityPlace_32 hl (k := 1) rfl (nI_1 q) (by decide) rfl (fun ls hl => ?_)
            have hl : lv_has ls 6 [(5, .int (nI (q + 1))), (4, .int (nI ((qm_cs (v 21 0) (v 21 0 k) k (q - k)) + 1))), (3, .int (nI k)), (0, .ref (qa_a y 21 0)), (1, .int (nI sz)), (2, .int st)] := hl
            refine lv_goto hx hb d_VF_majorityPlace_35 rfl ?_
            have e9 : q + 1 - k = (q - k) + 1 := by omega
            have e8 : k + (q - k) = q := by omega
            have e5 : qm_cs (v 21 0) (v 21 0 k) k (q + 1 - k) = qm_cs (v 21 0) (v 21 0 k) k (q - k) + 1 := by rw [e9, qm_cs, e8, if_pos h26]
            refine ih2 (q + 1) ls (by omega) (by omega) ?_
            rw [e5]
            exact lv_sub hl [0, 1, 2, 3, 4, 5] rfl
      refine loop2 (sz - k) k ls (by omega) (Nat.le_refl _) ?_
      rw [Nat.sub_self]
      exact lv_sub hl [0, 1, 2, 3, 4, 5] rfl
  refine lv_iconst (v := 0) hx hb d_VF_majorityPlace_0 (by decide) ?_
  refine lv_istore_n hx hb d_VF_majorityPlace_1 rfl hl (by decide) rfl (fun ls hl => ?_)
  have hl : lv_has ls 6 [(3, .int 0), (0, .ref (qa_a y 21 0)), (1, .int (nI sz)), (2, .int st)] := hl
  exact loop sz 0 ls (by omega) lt_0 (lv_sub hl [0, 1, 2, 3] rfl)

set_option maxHeartbeats 4000000 in
set_option maxRecDepth 100000 in
theorem c_VF_majorityPlace_11 (l : Launch) (y : qa_L) (v : qa_M) (L : Nat) (sz : Nat) (st : Int32) (hL : L < qa_m y + 1) (hs : sz ≤ qa_n y) : qa_Pu l y_VF_majorityPlace b_VF_majorityPlace 6 (some .int) 0 [.ref (qa_a y 11 L), .int (nI sz), .int st] (qa_W y v) (qm_mp (v 11 L) sz st) := by
  refine qa_ofPu (plainFor_of_name (by decide)) (Nat.le_of_ble_eq_true rfl) ?_
  intro p e s m below meth c ls F hr hlocks hW hl
  have E : qa_E p m c b_VF_majorityPlace 6 s _ "VotedFrames" y := ⟨F, hW.2⟩
  have hC : qa_C y v s s.heap [] := ⟨hW.1, va_S.rf⟩
  have hx := F.1
  have hb := F.2.1
  have hown : s.vm.findClass "VotedFrames" = some m.cls := F.2.2.2.1
  have hts := F.2.2.2.2
  have hn4 : 4 ≤ qa_n y := E.2.1.2.2.1
  have hn7 : qa_n y ≤ 7 := E.2.1.2.2.2.1
  have hl : lv_has ls 6 [(0, .ref (qa_a y 11 L)), (1, .int (nI sz)), (2, .int st)] := hl
  have loop : ∀ (d k : Nat) (ls : Array Slot), k + d = sz → (∀ p, p < k → 2 * nI (qm_cs (v 11 L) (v 11 L p) p (sz - p)) ≤ st) → lv_has ls 6 [(3, .int (nI k)), (0, .ref (qa_a y 11 L)), (1, .int (nI sz)), (2, .int st)] → W p l e (qa_R 0) s m [.ref (qa_a y 11 L), .int (nI sz), .int st].toArray below meth c s.heap [] 0 0 (MQ below (QcRead (qm_mp (v 11 L) sz st)) [.ref (qa_a y 11 L), .int (nI sz), .int st].toArray s 0 0 (fun _ => False)) (F0 m 2 ls []) := by
    intro d
    induction d with
    | zero =>
      intro k ls hkd hI hl
      obtain rfl : sz = k := by omega
      refine lv_iload_n hx hb d_VF_majorityPlace_2 rfl (lv_at hl 0 rfl) ?_
      refine lv_iload_n hx hb d_VF_majorityPlace_3 rfl (lv_at hl 2 rfl) ?_
      refine lv_icmp_ge hx hb d_VF_majorityPlace_4 rfl (fun _ => ?_) (fun h9 => absurd (nI_le (Nat.le_refl _) (by omega)) h9)
      refine lv_iconst (v := -1) hx hb d_VF_majorityPlace_54 (by decide) ?_
      exact qa_iret hx hb hr hlocks ((qm_mp_no hI).symm) d_VF_majorityPlace_55
    | succ d ih =>
      intro k ls hkd hI hl
      have hk : k < sz := by omega
      have hkn : k < qa_n y := by omega
      refine lv_iload_n hx hb d_VF_majorityPlace_2 rfl (lv_at hl 0 rfl) ?_
      refine lv_iload_n hx hb d_VF_majorityPlace_3 rfl (lv_at hl 2 rfl) ?_
      refine lv_icmp_ge hx hb d_VF_majorityPlace_4 rfl (fun h9 => absurd h9 (nI_ge hk (by omega))) (fun _ => ?_)
      refine lv_iconst (v := 0) hx hb d_VF_majorityPlace_7 (by decide) ?_
      refine lv_istore hx hb d_VF_majorityPlace_8 hl (by decide) rfl (fun ls hl => ?_)
      have hl : lv_has ls 6 [(4, .int 0), (3, .int (nI k)), (0, .ref (qa_a y 11 L)), (1, .int (nI sz)), (2, .int st)] := hl
      refine lv_iload_n hx hb d_VF_majorityPlace_10 rfl (lv_at hl 1 rfl) ?_
      refine lv_istore hx hb d_VF_majorityPlace_11 hl (by decide) rfl (fun ls hl => ?_)
      have hl : lv_has ls 6 [(5, .int (nI k)), (4, .int 0), (3, .int (nI k)), (0, .ref (qa_a y 11 L)), (1, .int (nI sz)), (2, .int st)] := hl
      have hI1 := hI
      have loop2 : ∀ (d q : Nat) (ls : Array Slot), q + d = sz → (k ≤ q) → lv_has ls 6 [(5, .int (nI q)), (4, .int (nI (qm_cs (v 11 L) (v 11 L k) k (q - k)))), (3, .int (nI k)), (0, .ref (qa_a y 11 L)), (1, .int (nI sz)), (2, .int st)] → W p l e (qa_R 0) s m [.ref (qa_a y 11 L), .int (nI sz), .int st].toArray below meth c s.heap [] 0 0 (MQ below (QcRead (qm_mp (v 11 L) sz st)) [.ref (qa_a y 11 L), .int (nI sz), .int st].toArray s 0 0 (fun _ => False)) (F0 m 13 ls []) := by
        intro d
        induction d with
        | zero =>
          intro q ls hkd hI hl
          obtain rfl : sz = q := by omega
          refine lv_iload hx hb d_VF_majorityPlace_13 (lv_at hl 0 rfl) ?_
          refine lv_iload_n hx hb d_VF_majorityPlace_15 rfl (lv_at hl 4 rfl) ?_
          refine lv_icmp_ge hx hb d_VF_majorityPlace_16 rfl (fun _ => ?_) (fun h9 => absurd (nI_le (Nat.le_refl _) (by omega)) h9)
          refine lv_iconst (v := 2) hx hb d_VF_majorityPlace_38 (by decide) ?_
          refine lv_iload hx hb d_VF_majorityPlace_39 (lv_at hl 1 rfl) ?_
          refine lv_imul hx hb d_VF_majorityPlace_41 ?_
          refine lv_iload_n hx hb d_VF_majorityPlace_42 rfl (lv_at hl 5 rfl) ?_
          refine lv_icmp_le hx hb d_VF_majorityPlace_43 rfl (fun h43 => ?_) (fun h43 => ?_)
          · refine lv_iinc (v := nI (k + 1)) hx hb d_VF_majorityPlace_48 hl (k := 2) rfl (nI_1 k) (by decide) rfl (fun ls hl => ?_)
            have hl : lv_has ls 6 [(3, .int (nI (k + 1))), (5, .int (nI sz)), (4, .int (nI (qm_cs (v 11 L) (v 11 L k) k (sz - k)))), (0, .ref (qa_a y 11 L)), (1, .int (nI sz)), (2, .int st)] := hl
            refine lv_goto hx hb d_VF_majorityPlace_51 rfl ?_
            exact ih (k + 1) ls (by omega) (lt_s hI1 h43) (lv_sub hl [0, 3, 4, 5] rfl)
          · refine lv_iload_n hx hb d_VF_majorityPlace_46 rfl (lv_at hl 2 rfl) ?_
            exact qa_iret hx hb hr hlocks ((qm_mp_at hk hI1 (qm_lt h43)).symm) d_VF_majorityPlace_47
        | succ d ih2 =>
          intro q ls hkd hI hl
          have hq : q < sz := by omega
          have hqn : q < qa_n y := by omega
          refine lv_iload hx hb d_VF_majorityPlace_13 (lv_at hl 0 rfl) ?_
          refine lv_iload_n hx hb d_VF_majorityPlace_15 rfl (lv_at hl 4 rfl) ?_
          refine lv_icmp_ge hx hb d_VF_majorityPlace_16 rfl (fun h9 => absurd h9 (nI_ge hq (by omega))) (fun _ => ?_)
          refine lv_aload_n hx hb d_VF_majorityPlace_19 rfl (lv_at hl 3 rfl) ?_
          refine lv_iload hx hb d_VF_majorityPlace_20 (lv_at hl 0 rfl) ?_
          refine qa_ild (k := 11) (i := L) (j := q) E hC hL rfl rfl rfl hqn d_VF_majorityPlace_22 ?_
          refine lv_aload_n hx hb d_VF_majorityPlace_23 rfl (lv_at hl 3 rfl) ?_
          refine lv_iload_n hx hb d_VF_majorityPlace_24 rfl (lv_at hl 2 rfl) ?_
          refine qa_ild (k := 11) (i := L) (j := k) E hC hL rfl rfl rfl hkn d_VF_majorityPlace_25 ?_
          refine lv_icmp_ne hx hb d_VF_majorityPlace_26 rfl (fun h26 => ?_) (fun h26 => ?_)
          · refine lv_iinc (v := nI (q + 1)) hx hb d_VF_majorityPlace_32 hl (k := 0) rfl (nI_1 q) (by decide) rfl (fun ls hl => ?_)
            have hl : lv_has ls 6 [(5, .int (nI (q + 1))), (4, .int (nI (qm_cs (v 11 L) (v 11 L k) k (q - k)))), (3, .int (nI k)), (0, .ref (qa_a y 11 L)), (1, .int (nI sz)), (2, .int st)] := hl
            refine lv_goto hx hb d_VF_majorityPlace_35 rfl ?_
            have e9 : q + 1 - k = (q - k) + 1 := by omega
            have e8 : k + (q - k) = q := by omega
            have e5 : qm_cs (v 11 L) (v 11 L k) k (q + 1 - k) = qm_cs (v 11 L) (v 11 L k) k (q - k) := by rw [e9, qm_cs, e8, if_neg h26]
            refine ih2 (q + 1) ls (by omega) (by omega) ?_
            rw [e5]
            exact lv_sub hl [0, 1, 2, 3, 4, 5] rfl
          · refine lv_iinc (v := nI ((qm_cs (v 11 L) (v 11 L k) k (q - k)) + 1)) hx hb d_VF_majorityPlace_29 hl (k := 1) rfl (nI_1 (qm_cs (v 11 L) (v 11 L k) k (q - k))) (by decide) rfl (fun ls hl => ?_)
            have hl : lv_has ls 6 [(4, .int (nI ((qm_cs (v 11 L) (v 11 L k) k (q - k)) + 1))), (5, .int (nI q)), (3, .int (nI k)), (0, .ref (qa_a y 11 L)), (1, .int (nI sz)), (2, .int st)] := hl
            refine lv_iinc (v := nI (q + 1)) hx hb d_VF_majorityPlace_32 hl (k := 1) rfl (nI_1 q) (by decide) rfl (fun ls hl => ?_)
            have hl : lv_has ls 6 [(5, .int (nI (q + 1))), (4, .int (nI ((qm_cs (v 11 L) (v 11 L k) k (q - k)) + 1))), (3, .int (nI k)), (0, .ref (qa_a y 11 L)), (1, .int (nI sz)), (2, .int st)] := hl
            refine lv_goto hx hb d_VF_majorityPlace_35 rfl ?_
            have e9 : q + 1 - k = (q - k) + 1 := by omega
            have e8 : k + (q - k) = q := by omega
            have e5 : qm_cs (v 11 L) (v 11 L k) k (q + 1 - k) = qm_cs (v 11 L) (v 11 L k) k (q - k) + 1 := by rw [e9, qm_cs, e8, if_pos h26]
            refine ih2 (q + 1) ls (by omega) (by omega) ?_
            rw [e5]
            exact lv_sub hl [0, 1, 2, 3, 4, 5] rfl
      refine loop2 (sz - k) k ls (by omega) (Nat.le_refl _) ?_
      rw [Nat.sub_self]
      exact lv_sub hl [0, 1, 2, 3, 4, 5] rfl
  refine lv_iconst (v := 0) hx hb d_VF_majorityPlace_0 (by decide) ?_
  refine lv_istore_n hx hb d_VF_majorityPlace_1 rfl hl (by decide) rfl (fun ls hl => ?_)
  have hl : lv_has ls 6 [(3, .int 0), (0, .ref (qa_a y 11 L)), (1, .int (nI sz)), (2, .int st)] := hl
  exact loop sz 0 ls (by omega) lt_0 (lv_sub hl [0, 1, 2, 3] rfl)
