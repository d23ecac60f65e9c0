set_option maxHeartbeats 4000000 in
set_option maxRecDepth 100000 in
theorem c_RL_send0 (l : Launch) (y : qa_L) (v : qa_M) (j : Nat) (x : Int32) (r : Nat) (P : Int32) (hj : j < qa_n y) (hrow : r * qa_n y + qa_n y ≤ qa_h y) : qa_Mv l y_RL_send b_RL_send 7 3 [.ref (qa_a y 8 0), .int (nI j), .int x, .int (nI r), .int P, .int 0] y v (fun u => (∀ k, k ≠ 9 → u k = v k) ∧ qm_S0 (qa_n y) (qm_gt v) P j x r (u 9 0) ∧ ∀ q, ¬ qm_T0 (qa_n y) r q → u 9 0 q = v 9 0 q) := by
  refine qa_ofMv (plainFor_of_name (by decide)) (Nat.le_of_ble_eq_true rfl) ?_
  intro p e s m below meth c ls E hr hlocks hC hl
  have E : qa_E p m c b_RL_send 7 s _ "VotedFrames$Relay" y := E
  have F := E.1
  have hx := F.1
  have hb := F.2.1
  have hown : s.vm.findClass "VotedFrames$Relay" = some m.cls := F.2.2.2.1
  have hts := F.2.2.2.2
  have hn4 : 4 ≤ qa_n y := E.2.1.2.2.1
  have hn7 : qa_n y ≤ 7 := E.2.1.2.2.2.1
  have hl : lv_has ls 7 [(0, .ref (qa_a y 8 0)), (1, .int (nI j)), (2, .int x), (3, .int (nI r)), (4, .int P), (5, .int 0)] := hl
  have hh31 := qa_h_lt E.2.1
  have hb0 : r * qa_n y + qa_n y ≤ qa_h y := hrow
  have loop : ∀ (d k : Nat) (u : qa_M) (H : Heap) (locs : List Loc) (ls : Array Slot), k + d = qa_n y → qa_C y u s H locs → ((∀ k, k ≠ 9 → u k = v k) ∧ (∀ i, i < k → qm_in P (nI i) = false → u 9 0 (r * qa_n y + i) = qm_gt v j x i) ∧ ∀ q, (∀ i, i < k → q ≠ r * qa_n y + i) → u 9 0 q = v 9 0 q) → lv_has ls 7 [(6, .int (nI k)), (0, .ref (qa_a y 8 0)), (1, .int (nI j)), (2, .int x), (3, .int (nI r)), (4, .int P), (5, .int 0)] → W p l e (qa_R 3) s m [.ref (qa_a y 8 0), .int (nI j), .int x, .int (nI r), .int P, .int 0].toArray below meth c H locs 0 0 (MQ below (va_Qv (fun u => (∀ k, k ≠ 9 → u k = v k) ∧ qm_S0 (qa_n y) (qm_gt v) P j x r (u 9 0) ∧ ∀ q, ¬ qm_T0 (qa_n y) r q → u 9 0 q = v 9 0 q) (fun u t => qa_W y u t) (qa_A y)) [.ref (qa_a y 8 0), .int (nI j), .int x, .int (nI r), .int P, .int 0].toArray s 0 0 (qa_A y)) (F0 m 3 ls []) := by
    intro d
    induction d with
    | zero =>
      intro k u H locs ls hkd hC hI hl
      obtain rfl : qa_n y = k := by omega
      refine lv_iload hx hb d_RL_send_3 (lv_at hl 0 rfl) ?_
      refine lv_aload_n hx hb d_RL_send_5 rfl (lv_at hl 1 rfl) ?_
      refine qa_get (k := 8) (i := 0) (f := 0) (val := .ref (qa_a y 1 0)) E hC Nat.one_pos rfl rfl (by decide) f_RL_7 rfl rfl d_RL_send_6 ?_
      refine qa_len (k := 1) (i := 0) E hC Nat.one_pos rfl (v0 := nI (qa_n y)) rfl d_RL_send_9 ?_
      refine lv_icmp_ge hx hb d_RL_send_10 rfl (fun _ => ?_) (fun h9 => absurd (nI_le (Nat.le_refl _) (by omega)) h9)
      refine lv_iload hx hb d_RL_send_49 (lv_at hl 6 rfl) ?_
      refine lv_if_gt hx hb d_RL_send_51 rfl (fun h9 => absurd h9 (by decide)) (fun _ => ?_)
      exact qa_mvret E hC hr hlocks ⟨hI.1, fun i hi h0 => hI.2.1 i hi h0, fun q hq => hI.2.2 q (fun i hi e9 => hq ⟨i, hi, e9⟩)⟩ d_RL_send_54
    | succ d ih =>
      intro k u H locs ls hkd hC hI hl
      have hk : k < qa_n y := by omega
      refine lv_iload hx hb d_RL_send_3 (lv_at hl 0 rfl) ?_
      refine lv_aload_n hx hb d_RL_send_5 rfl (lv_at hl 1 rfl) ?_
      refine qa_get (k := 8) (i := 0) (f := 0) (val := .ref (qa_a y 1 0)) E hC Nat.one_pos rfl rfl (by decide) f_RL_7 rfl rfl d_RL_send_6 ?_
      refine qa_len (k := 1) (i := 0) E hC Nat.one_pos rfl (v0 := nI (qa_n y)) rfl d_RL_send_9 ?_
      refine lv_icmp_ge hx hb d_RL_send_10 rfl (fun h9 => absurd h9 (nI_ge hk (by omega))) (fun _ => ?_)
      refine lv_iload hx hb d_RL_send_13 (lv_at hl 5 rfl) ?_
      refine lv_iload hx hb d_RL_send_15 (lv_at hl 0 rfl) ?_
      refine qa_pN (As := [.int P, .int (nI k)]) E (c_VF_contains l P (nI k)) k_RL_57 (qa_fitR (by decide) (by decide)) rfl hl.1 rfl (Nat.le_of_ble_eq_true rfl) d_RL_send_17 ?_
      refine lv_if_ne hx hb d_RL_send_20 rfl (fun h20 => ?_) (fun h20 => ?_)
      · refine lv_iinc (v := nI (k + 1)) hx hb d_RL_send_43 hl (k := 0) rfl (nI_1 k) (by decide) rfl (fun ls hl => ?_)
        have hl : lv_has ls 7 [(6, .int (nI (k + 1))), (0, .ref (qa_a y 8 0)), (1, .int (nI j)), (2, .int x), (3, .int (nI r)), (4, .int P), (5, .int 0)] := hl
        refine lv_goto hx hb d_RL_send_46 rfl ?_
        exact ih (k + 1) u H locs ls (by omega) hC ⟨hI.1, lt_s hI.2.1 (fun h0 => by rw [h0] at h20; exact absurd rfl h20), fun q hq => hI.2.2 q (fun i hi => hq i (by omega))⟩ (lv_sub hl [0, 1, 2, 3, 4, 5, 6] rfl)
      · refine lv_aload_n hx hb d_RL_send_23 rfl (lv_at hl 1 rfl) ?_
        refine qa_get (k := 8) (i := 0) (f := 2) (val := .ref (qa_a y 9 0)) E hC Nat.one_pos rfl rfl (by decide) f_RL_17 rfl rfl d_RL_send_24 ?_
        refine lv_aload_n hx hb d_RL_send_27 rfl (lv_at hl 1 rfl) ?_
        refine lv_iload_n hx hb d_RL_send_28 rfl (lv_at hl 4 rfl) ?_
        refine lv_iload hx hb d_RL_send_29 (lv_at hl 0 rfl) ?_
        refine qa_pV (k := 8) (i := 0) (As := [.int (nI r), .int (nI k)]) E hC (c_RL_placeOf l y u (nI r) (nI k)) Nat.one_pos rfl rfl k_RL_74 (qa_fitR (by decide) (by decide)) rfl hl.1 rfl (Nat.le_of_ble_eq_true rfl) d_RL_send_31 ?_
        refine lv_aload_n hx hb d_RL_send_34 rfl (lv_at hl 1 rfl) ?_
        refine lv_iload_n hx hb d_RL_send_35 rfl (lv_at hl 2 rfl) ?_
        refine lv_iload_n hx hb d_RL_send_36 rfl (lv_at hl 3 rfl) ?_
        refine lv_iload hx hb d_RL_send_37 (lv_at hl 0 rfl) ?_
        refine qa_pV (k := 8) (i := 0) (As := [.int (nI j), .int x, .int (nI k)]) E hC (c_RL_got l y u j k x hj hk) Nat.one_pos rfl rfl k_RL_77 (qa_fitR (by decide) (by decide)) rfl hl.1 rfl (Nat.le_of_ble_eq_true rfl) d_RL_send_39 ?_
        refine qa_ist (k := 9) (i := 0) (j := (r * qa_n y + k)) E hC Nat.one_pos rfl rfl (by rw [pk_mul, nI_add]) (show r * qa_n y + k < qa_h y by omega) d_RL_send_42 (fun H locs hC => ?_)
        refine lv_iinc (v := nI (k + 1)) hx hb d_RL_send_43 hl (k := 0) rfl (nI_1 k) (by decide) rfl (fun ls hl => ?_)
        have hl : lv_has ls 7 [(6, .int (nI (k + 1))), (0, .ref (qa_a y 8 0)), (1, .int (nI j)), (2, .int x), (3, .int (nI r)), (4, .int P), (5, .int 0)] := hl
        refine lv_goto hx hb d_RL_send_46 rfl ?_
        refine ih (k + 1) _ H locs ls (by omega) hC ⟨fun a ha => ?_, lt_s (fun i hi h0 => ?_) (fun h0 => ?_), fun q hq => ?_⟩ (lv_sub hl [0, 1, 2, 3, 4, 5, 6] rfl)
        · rw [qa_up_kk ha]; exact hI.1 a ha
        · rw [qa_up_f (by omega)]; exact hI.2.1 i hi h0
        · rw [qa_up_s, qm_gt_n (hI.1 2 (by decide)) (by rw [hI.1 8 (by decide)])]
        · rw [qa_up_f (hq k (by omega))]; exact hI.2.2 q (fun i hi => hq i (by omega))
  refine lv_iconst (v := 0) hx hb d_RL_send_0 (by decide) ?_
  refine lv_istore hx hb d_RL_send_1 hl (by decide) rfl (fun ls hl => ?_)
  have hl : lv_has ls 7 [(6, .int 0), (0, .ref (qa_a y 8 0)), (1, .int (nI j)), (2, .int x), (3, .int (nI r)), (4, .int P), (5, .int 0)] := hl
  exact loop (qa_n y) 0 v _ _ ls (by omega) hC ⟨fun _ _ => rfl, lt_0, fun _ _ => rfl⟩ (lv_sub hl [0, 1, 2, 3, 4, 5, 6] rfl)

set_option maxHeartbeats 4000000 in
set_option maxRecDepth 100000 in
theorem c_RL_send1 (l : Launch) (y : qa_L) (v : qa_M) (j : Nat) (x : Int32) (r : Nat) (P : Int32) (hj : j < qa_n y) (hrow : (r * qa_n y + qa_n y) * qa_n y + qa_n y ≤ qa_h y) : qa_Mv l y_RL_send b_RL_send 7 4 [.ref (qa_a y 8 0), .int (nI j), .int x, .int (nI r), .int P, .int 1] y v (fun u => (∀ k, k ≠ 9 → u k = v k) ∧ qm_S1 (qa_n y) (qm_gt v) P j x r (u 9 0) ∧ ∀ q, ¬ qm_T1 (qa_n y) r q → u 9 0 q = v 9 0 q) := by
  refine qa_ofMv (plainFor_of_name (by decide)) (Nat.le_of_ble_eq_true rfl) ?_
  intro p e s m below meth c ls E hr hlocks hC hl
  have E : qa_E p m c b_RL_send 7 s _ "VotedFrames$Relay" y := E
  have F := E.1
  have hx := F.1
  have hb := F.2.1
  have hown : s.vm.findClass "VotedFrames$Relay" = some m.cls := F.2.2.2.1
  have hts := F.2.2.2.2
  have hn4 : 4 ≤ qa_n y := E.2.1.2.2.1
  have hn7 : qa_n y ≤ 7 := E.2.1.2.2.2.1
  have hl : lv_has ls 7 [(0, .ref (qa_a y 8 0)), (1, .int (nI j)), (2, .int x), (3, .int (nI r)), (4, .int P), (5, .int 1)] := hl
  have hh31 := qa_h_lt E.2.1
  have hb0 : r * qa_n y + qa_n y ≤ qa_h y := by rcases qm_n47 hn4 hn7 with e | e | e | e <;> rw [e] at hrow ⊢ <;> omega
  have loop : ∀ (d k : Nat) (u : qa_M) (H : Heap) (locs : List Loc) (ls : Array Slot), k + d = qa_n y → qa_C y u s H locs → ((∀ k, k ≠ 9 → u k = v k) ∧ (∀ i, i < k → qm_in P (nI i) = false → u 9 0 (r * qa_n y + i) = qm_gt v j x i) ∧ ∀ q, (∀ i, i < k → q ≠ r * qa_n y + i) → u 9 0 q = v 9 0 q) → lv_has ls 7 [(6, .int (nI k)), (0, .ref (qa_a y 8 0)), (1, .int (nI j)), (2, .int x), (3, .int (nI r)), (4, .int P), (5, .int 1)] → W p l e (qa_R 4) s m [.ref (qa_a y 8 0), .int (nI j), .int x, .int (nI r), .int P, .int 1].toArray below meth c H locs 0 0 (MQ below (va_Qv (fun u => (∀ k, k ≠ 9 → u k = v k) ∧ qm_S1 (qa_n y) (qm_gt v) P j x r (u 9 0) ∧ ∀ q, ¬ qm_T1 (qa_n y) r q → u 9 0 q = v 9 0 q) (fun u t => qa_W y u t) (qa_A y)) [.ref (qa_a y 8 0), .int (nI j), .int x, .int (nI r), .int P, .int 1].toArray s 0 0 (qa_A y)) (F0 m 3 ls []) := by
    intro d
    induction d with
    | zero =>
      intro k u H locs ls hkd hC hI hl
      obtain rfl : qa_n y = k := by omega
      refine lv_iload hx hb d_RL_send_3 (lv_at hl 0 rfl) ?_
      refine lv_aload_n hx hb d_RL_send_5 rfl (lv_at hl 1 rfl) ?_
      refine qa_get (k := 8) (i := 0) (f := 0) (val := .ref (qa_a y 1 0)) E hC Nat.one_pos rfl rfl (by decide) f_RL_7 rfl rfl d_RL_send_6 ?_
      refine qa_len (k := 1) (i := 0) E hC Nat.one_pos rfl (v0 := nI (qa_n y)) rfl d_RL_send_9 ?_
      refine lv_icmp_ge hx hb d_RL_send_10 rfl (fun _ => ?_) (fun h9 => absurd (nI_le (Nat.le_refl _) (by omega)) h9)
      refine lv_iload hx hb d_RL_send_49 (lv_at hl 6 rfl) ?_
      refine lv_if_gt hx hb d_RL_send_51 rfl (fun _ => ?_) (fun h9 => absurd (by decide) h9)
      refine lv_iconst (v := 0) hx hb d_RL_send_55 (by decide) ?_
      refine lv_istore hx hb d_RL_send_56 hl (by decide) rfl (fun ls hl => ?_)
      have hl : lv_has ls 7 [(6, .int 0), (0, .ref (qa_a y 8 0)), (1, .int (nI j)), (2, .int x), (3, .int (nI r)), (4, .int P), (5, .int 1)] := hl
      have loop2 : ∀ (d k : Nat) (u : qa_M) (H : Heap) (locs : List Loc) (ls : Array Slot), k + d = qa_n y → qa_C y u s H locs → ((∀ k, k ≠ 9 → u k = v k) ∧ qm_S0 (qa_n y) (qm_gt v) P j x r (u 9 0) ∧ (∀ a, a < k → qm_in P (nI a) = false → qm_S0 (qa_n y) (qm_gt v) (qm_ad P a) a (qm_gt v j x a) (r * qa_n y + 1 + a) (u 9 0)) ∧ ∀ q, ¬ qm_T0 (qa_n y) r q → (∀ a, a < k → ¬ qm_T0 (qa_n y) (r * qa_n y + 1 + a) q) → u 9 0 q = v 9 0 q) → lv_has ls 7 [(6, .int (nI k)), (0, .ref (qa_a y 8 0)), (1, .int (nI j)), (2, .int x), (3, .int (nI r)), (4, .int P), (5, .int 1)] → W p l e (qa_R 4) s m [.ref (qa_a y 8 0), .int (nI j), .int x, .int (nI r), .int P, .int 1].toArray below meth c H locs 0 0 (MQ below (va_Qv (fun u => (∀ k, k ≠ 9 → u k = v k) ∧ qm_S1 (qa_n y) (qm_gt v) P j x r (u 9 0) ∧ ∀ q, ¬ qm_T1 (qa_n y) r q → u 9 0 q = v 9 0 q) (fun u t => qa_W y u t) (qa_A y)) [.ref (qa_a y 8 0), .int (nI j), .int x, .int (nI r), .int P, .int 1].toArray s 0 0 (qa_A y)) (F0 m 58 ls []) := by
        intro d
        induction d with
        | zero =>
          intro k u H locs ls hkd hC hI hl
          obtain rfl : qa_n y = k := by omega
          have hI2 := hI
          refine lv_iload hx hb d_RL_send_58 (lv_at hl 0 rfl) ?_
          refine lv_aload_n hx hb d_RL_send_60 rfl (lv_at hl 1 rfl) ?_
          refine qa_get (k := 8) (i := 0) (f := 0) (val := .ref (qa_a y 1 0)) E hC Nat.one_pos rfl rfl (by decide) f_RL_7 rfl rfl d_RL_send_61 ?_
          refine qa_len (k := 1) (i := 0) E hC Nat.one_pos rfl (v0 := nI (qa_n y)) rfl d_RL_send_64 ?_
          refine lv_icmp_ge hx hb d_RL_send_65 rfl (fun _ => ?_) (fun h9 => absurd (nI_le (Nat.le_refl _) (by omega)) h9)
          exact qa_mvret E hC hr hlocks ⟨hI2.1, ⟨hI2.2.1, hI2.2.2.1⟩, fun q hq => hI2.2.2.2 q (fun z => hq (Or.inl z)) (fun a ha z => hq (Or.inr ⟨a, ha, z⟩))⟩ d_RL_send_120
        | succ d ih2 =>
          intro k u H locs ls hkd hC hI hl
          have hk : k < qa_n y := by omega
          have hI2 := hI
          refine lv_iload hx hb d_RL_send_58 (lv_at hl 0 rfl) ?_
          refine lv_aload_n hx hb d_RL_send_60 rfl (lv_at hl 1 rfl) ?_
          refine qa_get (k := 8) (i := 0) (f := 0) (val := .ref (qa_a y 1 0)) E hC Nat.one_pos rfl rfl (by decide) f_RL_7 rfl rfl d_RL_send_61 ?_
          refine qa_len (k := 1) (i := 0) E hC Nat.one_pos rfl (v0 := nI (qa_n y)) rfl d_RL_send_64 ?_
          refine lv_icmp_ge hx hb d_RL_send_65 rfl (fun h9 => absurd h9 (nI_ge hk (by omega))) (fun _ => ?_)
          refine lv_iload hx hb d_RL_send_68 (lv_at hl 5 rfl) ?_
          refine lv_iload hx hb d_RL_send_70 (lv_at hl 0 rfl) ?_
          refine qa_pN (As := [.int P, .int (nI k)]) E (c_VF_contains l P (nI k)) k_RL_57 (qa_fitR (by decide) (by decide)) rfl hl.1 rfl (Nat.le_of_ble_eq_true rfl) d_RL_send_72 ?_
          refine lv_if_ne hx hb d_RL_send_75 rfl (fun h75 => ?_) (fun h75 => ?_)
          · refine lv_iinc (v := nI (k + 1)) hx hb d_RL_send_114 hl (k := 0) rfl (nI_1 k) (by decide) rfl (fun ls hl => ?_)
            have hl : lv_has ls 7 [(6, .int (nI (k + 1))), (0, .ref (qa_a y 8 0)), (1, .int (nI j)), (2, .int x), (3, .int (nI r)), (4, .int P), (5, .int 1)] := hl
            refine lv_goto hx hb d_RL_send_117 rfl ?_
            exact ih2 (k + 1) u H locs ls (by omega) hC ⟨hI2.1, hI2.2.1, lt_s hI2.2.2.1 (fun h0 => by rw [h0] at h75; exact absurd rfl h75), fun q h1 h2 => hI2.2.2.2 q h1 (fun a ha => h2 a (by omega))⟩ (lv_sub hl [0, 1, 2, 3, 4, 5, 6] rfl)
          · refine lv_aload_n hx hb d_RL_send_78 rfl (lv_at hl 1 rfl) ?_
            refine lv_iload hx hb d_RL_send_79 (lv_at hl 0 rfl) ?_
            refine lv_aload_n hx hb d_RL_send_81 rfl (lv_at hl 1 rfl) ?_
            refine qa_get (k := 8) (i := 0) (f := 2) (val := .ref (qa_a y 9 0)) E hC Nat.one_pos rfl rfl (by decide) f_RL_17 rfl rfl d_RL_send_82 ?_
            refine lv_aload_n hx hb d_RL_send_85 rfl (lv_at hl 1 rfl) ?_
            refine lv_iload_n hx hb d_RL_send_86 rfl (lv_at hl 4 rfl) ?_
            refine lv_iload hx hb d_RL_send_87 (lv_at hl 0 rfl) ?_
            refine qa_pV (k := 8) (i := 0) (As := [.int (nI r), .int (nI k)]) E hC (c_RL_placeOf l y u (nI r) (nI k)) Nat.one_pos rfl rfl k_RL_74 (qa_fitR (by decide) (by decide)) rfl hl.1 rfl (Nat.le_of_ble_eq_true rfl) d_RL_send_89 ?_
            refine qa_ild (k := 9) (i := 0) (j := (r * qa_n y + k)) E hC Nat.one_pos rfl rfl (by rw [pk_mul, nI_add]) (show r * qa_n y + k < qa_h y by omega) d_RL_send_92 ?_
            refine lv_aload_n hx hb d_RL_send_93 rfl (lv_at hl 1 rfl) ?_
            refine lv_iload_n hx hb d_RL_send_94 rfl (lv_at hl 4 rfl) ?_
            refine lv_iload hx hb d_RL_send_95 (lv_at hl 0 rfl) ?_
            refine qa_pV (k := 8) (i := 0) (As := [.int (nI r), .int (nI k)]) E hC (c_RL_follow l y u (nI r) (nI k)) Nat.one_pos rfl rfl k_RL_80 (qa_fitR (by decide) (by decide)) rfl hl.1 rfl (Nat.le_of_ble_eq_true rfl) d_RL_send_97 ?_
            refine lv_iload hx hb d_RL_send_100 (lv_at hl 5 rfl) ?_
            refine lv_iconst (v := 1) hx hb d_RL_send_102 (by decide) ?_
            refine lv_iload hx hb d_RL_send_103 (lv_at hl 0 rfl) ?_
            refine lv_ishl hx hb d_RL_send_105 ?_
            refine lv_ior hx hb d_RL_send_106 ?_
            refine lv_iload hx hb d_RL_send_107 (lv_at hl 6 rfl) ?_
            refine lv_iconst (v := 1) hx hb d_RL_send_109 (by decide) ?_
            refine lv_isub hx hb d_RL_send_110 ?_
            rw [show nI r * nI (qa_n y) + 1 + nI k = nI (r * qa_n y + 1 + k) by rw [pk_mul, nI_1, nI_add]]
            rw [show (1 : Int32) - 1 = 0 by decide]
            refine qa_mVv (k := 8) (i := 0) (As := [.int (nI k), .int (u 9 0 (r * qa_n y + k)), .int (nI (r * qa_n y + 1 + k)), .int (P ||| ((1 : Int32) <<< ((nI k) &&& 31))), .int 0]) E hC (c_RL_send0 l y u k (u 9 0 (r * qa_n y + k)) (r * qa_n y + 1 + k) (P ||| ((1 : Int32) <<< ((nI k) &&& 31))) hk (by rcases qm_n47 hn4 hn7 with e | e | e | e <;> rw [e] at hrow hk ⊢ <;> omega)) Nat.one_pos rfl rfl k_RL_50 (qa_fitR (by decide) (by decide)) rfl hl.1 rfl (Nat.le_of_ble_eq_true rfl) d_RL_send_111 (fun u1 H locs hp1 hC => ?_)
            refine lv_iinc (v := nI (k + 1)) hx hb d_RL_send_114 hl (k := 0) rfl (nI_1 k) (by decide) rfl (fun ls hl => ?_)
            have hl : lv_has ls 7 [(6, .int (nI (k + 1))), (0, .ref (qa_a y 8 0)), (1, .int (nI j)), (2, .int x), (3, .int (nI r)), (4, .int P), (5, .int 1)] := hl
            refine lv_goto hx hb d_RL_send_117 rfl ?_
            have hg : qm_gt u = qm_gt v := qm_gt_n (hI2.1 2 (by decide)) (by rw [hI2.1 8 (by decide)])
            have hP0 : qm_in P (nI k) = false := qb_e0 h75
            have hx0 : u 9 0 (r * qa_n y + k) = qm_gt v j x k := hI2.2.1 k hk hP0
            rw [hg, hx0] at hp1
            refine ih2 (k + 1) u1 H locs ls (by omega) hC ⟨fun a ha => (hp1.1 a ha).trans (hI2.1 a ha), qm_S0_n hI2.2.1 (fun q hq => hp1.2.2 q (qm_T_a hn4 hn7 hq)), lt_s (fun a ha h0 => qm_S0_n (hI2.2.2.1 a ha h0) (fun q hq => hp1.2.2 q (qm_T_b (by omega) hq))) (fun _ => hp1.2.1), fun q h1 h2 => (hp1.2.2 q (h2 k (by omega))).trans (hI2.2.2.2 q h1 (fun a ha => h2 a (by omega)))⟩ (lv_sub hl [0, 1, 2, 3, 4, 5, 6] rfl)
      exact loop2 (qa_n y) 0 u H locs ls (by omega) hC ⟨hI.1, fun i hi h0 => hI.2.1 i hi h0, lt_0, fun q h1 _ => hI.2.2 q (fun i hi e9 => h1 ⟨i, hi, e9⟩)⟩ (lv_sub hl [0, 1, 2, 3, 4, 5, 6] rfl)
    | succ d ih =>
      intro k u H locs ls hkd hC hI hl
      have hk : k < qa_n y := by omega
      refine lv_iload hx hb d_RL_send_3 (lv_at hl 0 rfl) ?_
      refine lv_aload_n hx hb d_RL_send_5 rfl (lv_at hl 1 rfl) ?_
      refine qa_get (k := 8) (i := 0) (f := 0) (val := .ref (qa_a y 1 0)) E hC Nat.one_pos rfl rfl (by decide) f_RL_7 rfl rfl d_RL_send_6 ?_
      refine qa_len (k := 1) (i := 0) E hC Nat.one_pos rfl (v0 := nI (qa_n y)) rfl d_RL_send_9 ?_
      refine lv_icmp_ge hx hb d_RL_send_10 rfl (fun h9 => absurd h9 (nI_ge hk (by omega))) (fun _ => ?_)
      refine lv_iload hx hb d_RL_send_13 (lv_at hl 5 rfl) ?_
      refine lv_iload hx hb d_RL_send_15 (lv_at hl 0 rfl) ?_
      refine qa_pN (As := [.int P, .int (nI k)]) E (c_VF_contains l P (nI k)) k_RL_57 (qa_fitR (by decide) (by decide)) rfl hl.1 rfl (Nat.le_of_ble_eq_true rfl) d_RL_send_17 ?_
      refine lv_if_ne hx hb d_RL_send_20 rfl (fun h20 => ?_) (fun h20 => ?_)
      · refine lv_iinc (v := nI (k + 1)) hx hb d_RL_send_43 hl (k := 0) rfl (nI_1 k) (by decide) rfl (fun ls hl => ?_)
        have hl : lv_has ls 7 [(6, .int (nI (k + 1))), (0, .ref (qa_a y 8 0)), (1, .int (nI j)), (2, .int x), (3, .int (nI r)), (4, .int P), (5, .int 1)] := hl
        refine lv_goto hx hb d_RL_send_46 rfl ?_
        exact ih (k + 1) u H locs ls (by omega) hC ⟨hI.1, lt_s hI.2.1 (fun h0 => by rw [h0] at h20; exact absurd rfl h20), fun q hq => hI.2.2 q (fun i hi => hq i (by omega))⟩ (lv_sub hl [0, 1, 2, 3, 4, 5, 6] rfl)
      · refine lv_aload_n hx hb d_RL_send_23 rfl (lv_at hl 1 rfl) ?_
        refine qa_get (k := 8) (i := 0) (f := 2) (val := .ref (qa_a y 9 0)) E hC Nat.one_pos rfl rfl (by decide) f_RL_17 rfl rfl d_RL_send_24 ?_
        refine lv_aload_n hx hb d_RL_send_27 rfl (lv_at hl 1 rfl) ?_
        refine lv_iload_n hx hb d_RL_send_28 rfl (lv_at hl 4 rfl) ?_
        refine lv_iload hx hb d_RL_send_29 (lv_at hl 0 rfl) ?_
        refine qa_pV (k := 8) (i := 0) (As := [.int (nI r), .int (nI k)]) E hC (c_RL_placeOf l y u (nI r) (nI k)) Nat.one_pos rfl rfl k_RL_74 (qa_fitR (by decide) (by decide)) rfl hl.1 rfl (Nat.le_of_ble_eq_true rfl) d_RL_send_31 ?_
        refine lv_aload_n hx hb d_RL_send_34 rfl (lv_at hl 1 rfl) ?_
        refine lv_iload_n hx hb d_RL_send_35 rfl (lv_at hl 2 rfl) ?_
        refine lv_iload_n hx hb d_RL_send_36 rfl (lv_at hl 3 rfl) ?_
        refine lv_iload hx hb d_RL_send_37 (lv_at hl 0 rfl) ?_
        refine qa_pV (k := 8) (i := 0) (As := [.int (nI j), .int x, .int (nI k)]) E hC (c_RL_got l y u j k x hj hk) Nat.one_pos rfl rfl k_RL_77 (qa_fitR (by decide) (by decide)) rfl hl.1 rfl (Nat.le_of_ble_eq_true rfl) d_RL_send_39 ?_
        refine qa_ist (k := 9) (i := 0) (j := (r * qa_n y + k)) E hC Nat.one_pos rfl rfl (by rw [pk_mul, nI_add]) (show r * qa_n y + k < qa_h y by omega) d_RL_send_42 (fun H locs hC => ?_)
        refine lv_iinc (v := nI (k + 1)) hx hb d_RL_send_43 hl (k := 0) rfl (nI_1 k) (by decide) rfl (fun ls hl => ?_)
        have hl : lv_has ls 7 [(6, .int (nI (k + 1))), (0, .ref (qa_a y 8 0)), (1, .int (nI j)), (2, .int x), (3, .int (nI r)), (4, .int P), (5, .int 1)] := hl
        refine lv_goto hx hb d_RL_send_46 rfl ?_
        refine ih (k + 1) _ H locs ls (by omega) hC ⟨fun a ha => ?_, lt_s (fun i hi h0 => ?_) (fun h0 => ?_), fun q hq => ?_⟩ (lv_sub hl [0, 1, 2, 3, 4, 5, 6] rfl)
        · rw [qa_up_kk ha]; exact hI.1 a ha
        · rw [qa_up_f (by omega)]; exact hI.2.1 i hi h0
        · rw [qa_up_s, qm_gt_n (hI.1 2 (by decide)) (by rw [hI.1 8 (by decide)])]
        · rw [qa_up_f (hq k (by omega))]; exact hI.2.2 q (fun i hi => hq i (by omega))
  refine lv_iconst (v := 0) hx hb d_RL_send_0 (by decide) ?_
  refine lv_istore hx hb d_RL_send_1 hl (by decide) rfl (fun ls hl => ?_)
  have hl : lv_has ls 7 [(6, .int 0), (0, .ref (qa_a y 8 0)), (1, .int (nI j)), (2, .int x), (3, .int (nI r)), (4, .int P), (5, .int 1)] := hl
  exact loop (qa_n y) 0 v _ _ ls (by omega) hC ⟨fun _ _ => rfl, lt_0, fun _ _ => rfl⟩ (lv_sub hl [0, 1, 2, 3, 4, 5, 6] rfl)

set_option maxHeartbeats 4000000 in
set_option maxRecDepth 100000 in
theorem c_RL_send2 (l : Launch) (y : qa_L) (v : qa_M) (j : Nat) (x : Int32) (P : Int32) (hj : j < qa_n y) (hrow : (qa_n y * qa_n y + qa_n y) * qa_n y + qa_n y ≤ qa_h y) : qa_Mv l y_RL_send b_RL_send 7 5 [.ref (qa_a y 8 0), .int (nI j), .int x, .int (nI 0), .int P, .int 2] y v (fun u => (∀ k, k ≠ 9 → u k = v k) ∧ qm_S2 (qa_n y) (qm_gt v) P j x 0 (u 9 0) ∧ ∀ q, ¬ qm_T2 (qa_n y) 0 q → u 9 0 q = v 9 0 q) := by
  refine qa_ofMv (plainFor_of_name (by decide)) (Nat.le_of_ble_eq_true rfl) ?_
  intro p e s m below meth c ls E hr hlocks hC hl
  have E : qa_E p m c b_RL_send 7 s _ "VotedFrames$Relay" y := E
  have F := E.1
  have hx := F.1
  have hb := F.2.1
  have hown : s.vm.findClass "VotedFrames$Relay" = some m.cls := F.2.2.2.1
  have hts := F.2.2.2.2
  have hn4 : 4 ≤ qa_n y := E.2.1.2.2.1
  have hn7 : qa_n y ≤ 7 := E.2.1.2.2.2.1
  have hl : lv_has ls 7 [(0, .ref (qa_a y 8 0)), (1, .int (nI j)), (2, .int x), (3, .int (nI 0)), (4, .int P), (5, .int 2)] := hl
  have hh31 := qa_h_lt E.2.1
  have hb0 : 0 * qa_n y + qa_n y ≤ qa_h y := by rcases qm_n47 hn4 hn7 with e | e | e | e <;> rw [e] at hrow ⊢ <;> omega
  have loop : ∀ (d k : Nat) (u : qa_M) (H : Heap) (locs : List Loc) (ls : Array Slot), k + d = qa_n y → qa_C y u s H locs → ((∀ k, k ≠ 9 → u k = v k) ∧ (∀ i, i < k → qm_in P (nI i) = false → u 9 0 (0 * qa_n y + i) = qm_gt v j x i) ∧ ∀ q, (∀ i, i < k → q ≠ 0 * qa_n y + i) → u 9 0 q = v 9 0 q) → lv_has ls 7 [(6, .int (nI k)), (0, .ref (qa_a y 8 0)), (1, .int (nI j)), (2, .int x), (3, .int (nI 0)), (4, .int P), (5, .int 2)] → W p l e (qa_R 5) s m [.ref (qa_a y 8 0), .int (nI j), .int x, .int (nI 0), .int P, .int 2].toArray below meth c H locs 0 0 (MQ below (va_Qv (fun u => (∀ k, k ≠ 9 → u k = v k) ∧ qm_S2 (qa_n y) (qm_gt v) P j x 0 (u 9 0) ∧ ∀ q, ¬ qm_T2 (qa_n y) 0 q → u 9 0 q = v 9 0 q) (fun u t => qa_W y u t) (qa_A y)) [.ref (qa_a y 8 0), .int (nI j), .int x, .int (nI 0), .int P, .int 2].toArray s 0 0 (qa_A y)) (F0 m 3 ls []) := by
    intro d
    induction d with
    | zero =>
      intro k u H locs ls hkd hC hI hl
      obtain rfl : qa_n y = k := by omega
      refine lv_iload hx hb d_RL_send_3 (lv_at hl 0 rfl) ?_
      refine lv_aload_n hx hb d_RL_send_5 rfl (lv_at hl 1 rfl) ?_
      refine qa_get (k := 8) (i := 0) (f := 0) (val := .ref (qa_a y 1 0)) E hC Nat.one_pos rfl rfl (by decide) f_RL_7 rfl rfl d_RL_send_6 ?_
      refine qa_len (k := 1) (i := 0) E hC Nat.one_pos rfl (v0 := nI (qa_n y)) rfl d_RL_send_9 ?_
      refine lv_icmp_ge hx hb d_RL_send_10 rfl (fun _ => ?_) (fun h9 => absurd (nI_le (Nat.le_refl _) (by omega)) h9)
      refine lv_iload hx hb d_RL_send_49 (lv_at hl 6 rfl) ?_
      refine lv_if_gt hx hb d_RL_send_51 rfl (fun _ => ?_) (fun h9 => absurd (by decide) h9)
      refine lv_iconst (v := 0) hx hb d_RL_send_55 (by decide) ?_
      refine lv_istore hx hb d_RL_send_56 hl (by decide) rfl (fun ls hl => ?_)
      have hl : lv_has ls 7 [(6, .int 0), (0, .ref (qa_a y 8 0)), (1, .int (nI j)), (2, .int x), (3, .int (nI 0)), (4, .int P), (5, .int 2)] := hl
      have loop2 : ∀ (d k : Nat) (u : qa_M) (H : Heap) (locs : List Loc) (ls : Array Slot), k + d = qa_n y → qa_C y u s H locs → ((∀ k, k ≠ 9 → u k = v k) ∧ qm_S0 (qa_n y) (qm_gt v) P j x 0 (u 9 0) ∧ (∀ a, a < k → qm_in P (nI a) = false → qm_S1 (qa_n y) (qm_gt v) (qm_ad P a) a (qm_gt v j x a) (0 * qa_n y + 1 + a) (u 9 0)) ∧ ∀ q, ¬ qm_T0 (qa_n y) 0 q → (∀ a, a < k → ¬ qm_T1 (qa_n y) (0 * qa_n y + 1 + a) q) → u 9 0 q = v 9 0 q) → lv_has ls 7 [(6, .int (nI k)), (0, .ref (qa_a y 8 0)), (1, .int (nI j)), (2, .int x), (3, .int (nI 0)), (4, .int P), (5, .int 2)] → W p l e (qa_R 5) s m [.ref (qa_a y 8 0), .int (nI j), .int x, .int (nI 0), .int P, .int 2].toArray below meth c H locs 0 0 (MQ below (va_Qv (fun u => (∀ k, k ≠ 9 → u k = v k) ∧ qm_S2 (qa_n y) (qm_gt v) P j x 0 (u 9 0) ∧ ∀ q, ¬ qm_T2 (qa_n y) 0 q → u 9 0 q = v 9 0 q) (fun u t => qa_W y u t) (qa_A y)) [.ref (qa_a y 8 0), .int (nI j), .int x, .int (nI 0), .int P, .int 2].toArray s 0 0 (qa_A y)) (F0 m 58 ls []) := by
        intro d
        induction d with
        | zero =>
          intro k u H locs ls hkd hC hI hl
          obtain rfl : qa_n y = k := by omega
          have hI2 := hI
          refine lv_iload hx hb d_RL_send_58 (lv_at hl 0 rfl) ?_
          refine lv_aload_n hx hb d_RL_send_60 rfl (lv_at hl 1 rfl) ?_
          refine qa_get (k := 8) (i := 0) (f := 0) (val := .ref (qa_a y 1 0)) E hC Nat.one_pos rfl rfl (by decide) f_RL_7 rfl rfl d_RL_send_61 ?_
          refine qa_len (k := 1) (i := 0) E hC Nat.one_pos rfl (v0 := nI (qa_n y)) rfl d_RL_send_64 ?_
          refine lv_icmp_ge hx hb d_RL_send_65 rfl (fun _ => ?_) (fun h9 => absurd (nI_le (Nat.le_refl _) (by omega)) h9)
          exact qa_mvret E hC hr hlocks ⟨hI2.1, ⟨hI2.2.1, hI2.2.2.1⟩, fun q hq => hI2.2.2.2 q (fun z => hq (Or.inl z)) (fun a ha z => hq (Or.inr ⟨a, ha, z⟩))⟩ d_RL_send_120
        | succ d ih2 =>
          intro k u H locs ls hkd hC hI hl
          have hk : k < qa_n y := by omega
          have hI2 := hI
          refine lv_iload hx hb d_RL_send_58 (lv_at hl 0 rfl) ?_
          refine lv_aload_n hx hb d_RL_send_60 rfl (lv_at hl 1 rfl) ?_
          refine qa_get (k := 8) (i := 0) (f := 0) (val := .ref (qa_a y 1 0)) E hC Nat.one_pos rfl rfl (by decide) f_RL_7 rfl rfl d_RL_send_61 ?_
          refine qa_len (k := 1) (i := 0) E hC Nat.one_pos rfl (v0 := nI (qa_n y)) rfl d_RL_send_64 ?_
          refine lv_icmp_ge hx hb d_RL_send_65 rfl (fun h9 => absurd h9 (nI_ge hk (by omega))) (fun _ => ?_)
          refine lv_iload hx hb d_RL_send_68 (lv_at hl 5 rfl) ?_
          refine lv_iload hx hb d_RL_send_70 (lv_at hl 0 rfl) ?_
          refine qa_pN (As := [.int P, .int (nI k)]) E (c_VF_contains l P (nI k)) k_RL_57 (qa_fitR (by decide) (by decide)) rfl hl.1 rfl (Nat.le_of_ble_eq_true rfl) d_RL_send_72 ?_
          refine lv_if_ne hx hb d_RL_send_75 rfl (fun h75 => ?_) (fun h75 => ?_)
          · refine lv_iinc (v := nI (k + 1)) hx hb d_RL_send_114 hl (k := 0) rfl (nI_1 k) (by decide) rfl (fun ls hl => ?_)
            have hl : lv_has ls 7 [(6, .int (nI (k + 1))), (0, .ref (qa_a y 8 0)), (1, .int (nI j)), (2, .int x), (3, .int (nI 0)), (4, .int P), (5, .int 2)] := hl
            refine lv_goto hx hb d_RL_send_117 rfl ?_
            exact ih2 (k + 1) u H locs ls (by omega) hC ⟨hI2.1, hI2.2.1, lt_s hI2.2.2.1 (fun h0 => by rw [h0] at h75; exact absurd rfl h75), fun q h1 h2 => hI2.2.2.2 q h1 (fun a ha => h2 a (by omega))⟩ (lv_sub hl [0, 1, 2, 3, 4, 5, 6] rfl)
          · refine lv_aload_n hx hb d_RL_send_78 rfl (lv_at hl 1 rfl) ?_
            refine lv_iload hx hb d_RL_send_79 (lv_at hl 0 rfl) ?_
            refine lv_aload_n hx hb d_RL_send_81 rfl (lv_at hl 1 rfl) ?_
            refine qa_get (k := 8) (i := 0) (f := 2) (val := .ref (qa_a y 9 0)) E hC Nat.one_pos rfl rfl (by decide) f_RL_17 rfl rfl d_RL_send_82 ?_
            refine lv_aload_n hx hb d_RL_send_85 rfl (lv_at hl 1 rfl) ?_
            refine lv_iload_n hx hb d_RL_send_86 rfl (lv_at hl 4 rfl) ?_
            refine lv_iload hx hb d_RL_send_87 (lv_at hl 0 rfl) ?_
            refine qa_pV (k := 8) (i := 0) (As := [.int (nI 0), .int (nI k)]) E hC (c_RL_placeOf l y u (nI 0) (nI k)) Nat.one_pos rfl rfl k_RL_74 (qa_fitR (by decide) (by decide)) rfl hl.1 rfl (Nat.le_of_ble_eq_true rfl) d_RL_send_89 ?_
            refine qa_ild (k := 9) (i := 0) (j := (0 * qa_n y + k)) E hC Nat.one_pos rfl rfl (by rw [pk_mul, nI_add]) (show 0 * qa_n y + k < qa_h y by omega) d_RL_send_92 ?_
            refine lv_aload_n hx hb d_RL_send_93 rfl (lv_at hl 1 rfl) ?_
            refine lv_iload_n hx hb d_RL_send_94 rfl (lv_at hl 4 rfl) ?_
            refine lv_iload hx hb d_RL_send_95 (lv_at hl 0 rfl) ?_
            refine qa_pV (k := 8) (i := 0) (As := [.int (nI 0), .int (nI k)]) E hC (c_RL_follow l y u (nI 0) (nI k)) Nat.one_pos rfl rfl k_RL_80 (qa_fitR (by decide) (by decide)) rfl hl.1 rfl (Nat.le_of_ble_eq_true rfl) d_RL_send_97 ?_
            refine lv_iload hx hb d_RL_send_100 (lv_at hl 5 rfl) ?_
            refine lv_iconst (v := 1) hx hb d_RL_send_102 (by decide) ?_
            refine lv_iload hx hb d_RL_send_103 (lv_at hl 0 rfl) ?_
            refine lv_ishl hx hb d_RL_send_105 ?_
            refine lv_ior hx hb d_RL_send_106 ?_
            refine lv_iload hx hb d_RL_send_107 (lv_at hl 6 rfl) ?_
            refine lv_iconst (v := 1) hx hb d_RL_send_109 (by decide) ?_
            refine lv_isub hx hb d_RL_send_110 ?_
            rw [show nI 0 * nI (qa_n y) + 1 + nI k = nI (0 * qa_n y + 1 + k) by rw [pk_mul, nI_1, nI_add]]
            rw [show (2 : Int32) - 1 = 1 by decide]
            refine qa_mVv (k := 8) (i := 0) (As := [.int (nI k), .int (u 9 0 (0 * qa_n y + k)), .int (nI (0 * qa_n y + 1 + k)), .int (P ||| ((1 : Int32) <<< ((nI k) &&& 31))), .int 1]) E hC (c_RL_send1 l y u k (u 9 0 (0 * qa_n y + k)) (0 * qa_n y + 1 + k) (P ||| ((1 : Int32) <<< ((nI k) &&& 31))) hk (by rcases qm_n47 hn4 hn7 with e | e | e | e <;> rw [e] at hrow hk ⊢ <;> omega)) Nat.one_pos rfl rfl k_RL_50 (qa_fitR (by decide) (by decide)) rfl hl.1 rfl (Nat.le_of_ble_eq_true rfl) d_RL_send_111 (fun u1 H locs hp1 hC => ?_)
            refine lv_iinc (v := nI (k + 1)) hx hb d_RL_send_114 hl (k := 0) rfl (nI_1 k) (by decide) rfl (fun ls hl => ?_)
            have hl : lv_has ls 7 [(6, .int (nI (k + 1))), (0, .ref (qa_a y 8 0)), (1, .int (nI j)), (2, .int x), (3, .int (nI 0)), (4, .int P), (5, .int 2)] := hl
            refine lv_goto hx hb d_RL_send_117 rfl ?_
            have hg : qm_gt u = qm_gt v := qm_gt_n (hI2.1 2 (by decide)) (by rw [hI2.1 8 (by decide)])
            have hP0 : qm_in P (nI k) = false := qb_e0 h75
            have hx0 : u 9 0 (0 * qa_n y + k) = qm_gt v j x k := hI2.2.1 k hk hP0
            rw [hg, hx0] at hp1
            refine ih2 (k + 1) u1 H locs ls (by omega) hC ⟨fun a ha => (hp1.1 a ha).trans (hI2.1 a ha), qm_S0_n hI2.2.1 (fun q hq => hp1.2.2 q (qm_T_c hn4 hn7 hq)), lt_s (fun a ha h0 => qm_S1_n (hI2.2.2.1 a ha h0) (fun q hq => hp1.2.2 q (qm_T_d hn4 hn7 (by omega) hk (by omega) hq))) (fun _ => hp1.2.1), fun q h1 h2 => (hp1.2.2 q (h2 k (by omega))).trans (hI2.2.2.2 q h1 (fun a ha => h2 a (by omega)))⟩ (lv_sub hl [0, 1, 2, 3, 4, 5, 6] rfl)
      exact loop2 (qa_n y) 0 u H locs ls (by omega) hC ⟨hI.1, fun i hi h0 => hI.2.1 i hi h0, lt_0, fun q h1 _ => hI.2.2 q (fun i hi e9 => h1 ⟨i, hi, e9⟩)⟩ (lv_sub hl [0, 1, 2, 3, 4, 5, 6] rfl)
    | succ d ih =>
      intro k u H locs ls hkd hC hI hl
      have hk : k < qa_n y := by omega
      refine lv_iload hx hb d_RL_send_3 (lv_at hl 0 rfl) ?_
      refine lv_aload_n hx hb d_RL_send_5 rfl (lv_at hl 1 rfl) ?_
      refine qa_get (k := 8) (i := 0) (f := 0) (val := .ref (qa_a y 1 0)) E hC Nat.one_pos rfl rfl (by decide) f_RL_7 rfl rfl d_RL_send_6 ?_
      refine qa_len (k := 1) (i := 0) E hC Nat.one_pos rfl (v0 := nI (qa_n y)) rfl d_RL_send_9 ?_
      refine lv_icmp_ge hx hb d_RL_send_10 rfl (fun h9 => absurd h9 (nI_ge hk (by omega))) (fun _ => ?_)
      refine lv_iload hx hb d_RL_send_13 (lv_at hl 5 rfl) ?_
      refine lv_iload hx hb d_RL_send_15 (lv_at hl 0 rfl) ?_
      refine qa_pN (As := [.int P, .int (nI k)]) E (c_VF_contains l P (nI k)) k_RL_57 (qa_fitR (by decide) (by decide)) rfl hl.1 rfl (Nat.le_of_ble_eq_true rfl) d_RL_send_17 ?_
      refine lv_if_ne hx hb d_RL_send_20 rfl (fun h20 => ?_) (fun h20 => ?_)
      · refine lv_iinc (v := nI (k + 1)) hx hb d_RL_send_43 hl (k := 0) rfl (nI_1 k) (by decide) rfl (fun ls hl => ?_)
        have hl : lv_has ls 7 [(6, .int (nI (k + 1))), (0, .ref (qa_a y 8 0)), (1, .int (nI j)), (2, .int x), (3, .int (nI 0)), (4, .int P), (5, .int 2)] := hl
        refine lv_goto hx hb d_RL_send_46 rfl ?_
        exact ih (k + 1) u H locs ls (by omega) hC ⟨hI.1, lt_s hI.2.1 (fun h0 => by rw [h0] at h20; exact absurd rfl h20), fun q hq => hI.2.2 q (fun i hi => hq i (by omega))⟩ (lv_sub hl [0, 1, 2, 3, 4, 5, 6] rfl)
      · refine lv_aload_n hx hb d_RL_send_23 rfl (lv_at hl 1 rfl) ?_
        refine qa_get (k := 8) (i := 0) (f := 2) (val := .ref (qa_a y 9 0)) E hC Nat.one_pos rfl rfl (by decide) f_RL_17 rfl rfl d_RL_send_24 ?_
        refine lv_aload_n hx hb d_RL_send_27 rfl (lv_at hl 1 rfl) ?_
        refine lv_iload_n hx hb d_RL_send_28 rfl (lv_at hl 4 rfl) ?_
        refine lv_iload hx hb d_RL_send_29 (lv_at hl 0 rfl) ?_
        refine qa_pV (k := 8) (i := 0) (As := [.int (nI 0), .int (nI k)]) E hC (c_RL_placeOf l y u (nI 0) (nI k)) Nat.one_pos rfl rfl k_RL_74 (qa_fitR (by decide) (by decide)) rfl hl.1 rfl (Nat.le_of_ble_eq_true rfl) d_RL_send_31 ?_
        refine lv_aload_n hx hb d_RL_send_34 rfl (lv_at hl 1 rfl) ?_
        refine lv_iload_n hx hb d_RL_send_35 rfl (lv_at hl 2 rfl) ?_
        refine lv_iload_n hx hb d_RL_send_36 rfl (lv_at hl 3 rfl) ?_
        refine lv_iload hx hb d_RL_send_37 (lv_at hl 0 rfl) ?_
        refine qa_pV (k := 8) (i := 0) (As := [.int (nI j), .int x, .int (nI k)]) E hC (c_RL_got l y u j k x hj hk) Nat.one_pos rfl rfl k_RL_77 (qa_fitR (by decide) (by decide)) rfl hl.1 rfl (Nat.le_of_ble_eq_true rfl) d_RL_send_39 ?_
        refine qa_ist (k := 9) (i := 0) (j := (0 * qa_n y + k)) E hC Nat.one_pos rfl rfl (by rw [pk_mul, nI_add]) (show 0 * qa_n y + k < qa_h y by omega) d_RL_send_42 (fun H locs hC => ?_)
        refine lv_iinc (v := nI (k + 1)) hx hb d_RL_send_43 hl (k := 0) rfl (nI_1 k) (by decide) rfl (fun ls hl => ?_)
        have hl : lv_has ls 7 [(6, .int (nI (k + 1))), (0, .ref (qa_a y 8 0)), (1, .int (nI j)), (2, .int x), (3, .int (nI 0)), (4, .int P), (5, .int 2)] := hl
        refine lv_goto hx hb d_RL_send_46 rfl ?_
        refine ih (k + 1) _ H locs ls (by omega) hC ⟨fun a ha => ?_, lt_s (fun i hi h0 => ?_) (fun h0 => ?_), fun q hq => ?_⟩ (lv_sub hl [0, 1, 2, 3, 4, 5, 6] rfl)
        · rw [qa_up_kk ha]; exact hI.1 a ha
        · rw [qa_up_f (by omega)]; exact hI.2.1 i hi h0
        · rw [qa_up_s, qm_gt_n (hI.1 2 (by decide)) (by rw [hI.1 8 (by decide)])]
        · rw [qa_up_f (hq k (by omega))]; exact hI.2.2 q (fun i hi => hq i (by omega))
  refine lv_iconst (v := 0) hx hb d_RL_send_0 (by decide) ?_
  refine lv_istore hx hb d_RL_send_1 hl (by decide) rfl (fun ls hl => ?_)
  have hl : lv_has ls 7 [(6, .int 0), (0, .ref (qa_a y 8 0)), (1, .int (nI j)), (2, .int x), (3, .int (nI 0)), (4, .int P), (5, .int 2)] := hl
  exact loop (qa_n y) 0 v _ _ ls (by omega) hC ⟨fun _ _ => rfl, lt_0, fun _ _ => rfl⟩ (lv_sub hl [0, 1, 2, 3, 4, 5, 6] rfl)
