set_option maxHeartbeats 4000000 in
set_option maxRecDepth 100000 in
theorem c_RL_spreadOut (l : Launch) (y : qa_L) (v : qa_M) (s0 : Nat) (x : Int32) (R : Nat) (hs0 : s0 < qa_n y) (hR : v 8 0 7 = nI R) (hRm : R ≤ qa_m y) : qa_Mv l y_RL_spreadOut b_RL_spreadOut 3 6 [.ref (qa_a y 8 0), .int (nI s0), .int x] y v (fun u => (∀ k, k ≠ 8 → k ≠ 9 → u k = v k) ∧ u 8 0 4 = nI s0 ∧ u 8 0 5 = x ∧ u 8 0 6 = v 8 0 6 ∧ u 8 0 7 = v 8 0 7 ∧ qm_SS (qa_n y) (qm_gt v) s0 x R (u 9 0)) := by
  refine qa_ofMv (plainFor_of_name (by decide)) (Nat.le_of_ble_eq_true rfl) ?_
  intro p e s m below meth c ls E hr hlocks hC hl
  have E : qa_E p m c b_RL_spreadOut 3 s _ "VotedFrames$Relay" y := E
  have F := E.1
  have hx := F.1
  have hb := F.2.1
  have hown : s.vm.findClass "VotedFrames$Relay" = some m.cls := F.2.2.2.1
  have hts := F.2.2.2.2
  have hn4 : 4 ≤ qa_n y := E.2.1.2.2.1
  have hn7 : qa_n y ≤ 7 := E.2.1.2.2.2.1
  have hl : lv_has ls 3 [(0, .ref (qa_a y 8 0)), (1, .int (nI s0)), (2, .int x)] := hl
  obtain ⟨b0, b1, b2⟩ := qm_hbd E.2.1
  have hm2 : qa_m y ≤ 2 := by have := E.2.1.2.2.2.2.1; omega
  rcases (show R = 0 ∨ R = 1 ∨ R = 2 by omega) with rfl | rfl | rfl
  · refine lv_aload_n hx hb d_RL_spreadOut_0 rfl (lv_at hl 0 rfl) ?_
    refine lv_iload_n hx hb d_RL_spreadOut_1 rfl (lv_at hl 1 rfl) ?_
    refine qa_put (k := 8) (i := 0) (f := 4) E hC Nat.one_pos rfl rfl (by decide) f_RL_44 rfl rfl rfl rfl d_RL_spreadOut_2 (fun H locs hC => ?_)
    refine lv_aload_n hx hb d_RL_spreadOut_5 rfl (lv_at hl 0 rfl) ?_
    refine lv_iload_n hx hb d_RL_spreadOut_6 rfl (lv_at hl 2 rfl) ?_
    refine qa_put (k := 8) (i := 0) (f := 5) E hC Nat.one_pos rfl rfl (by decide) f_RL_47 rfl rfl rfl rfl d_RL_spreadOut_7 (fun H locs hC => ?_)
    refine lv_aload_n hx hb d_RL_spreadOut_10 rfl (lv_at hl 0 rfl) ?_
    refine lv_iload_n hx hb d_RL_spreadOut_11 rfl (lv_at hl 1 rfl) ?_
    refine lv_iload_n hx hb d_RL_spreadOut_12 rfl (lv_at hl 2 rfl) ?_
    refine lv_iconst (v := 0) hx hb d_RL_spreadOut_13 (by decide) ?_
    refine lv_iconst (v := 1) hx hb d_RL_spreadOut_14 (by decide) ?_
    refine lv_iload_n hx hb d_RL_spreadOut_15 rfl (lv_at hl 1 rfl) ?_
    refine lv_ishl hx hb d_RL_spreadOut_16 ?_
    refine lv_aload_n hx hb d_RL_spreadOut_17 rfl (lv_at hl 0 rfl) ?_
    refine qa_get (k := 8) (i := 0) (f := 7) (val := .int ((qa_up (qa_up v 8 0 4 (nI s0)) 8 0 5 x) 8 0 7)) E hC Nat.one_pos rfl rfl (by decide) f_RL_29 rfl rfl d_RL_spreadOut_18 ?_
    rw [show (qa_up (qa_up v 8 0 4 (nI s0)) 8 0 5 x) 8 0 7 = 0 by rw [qa_up_f (by decide), qa_up_f (by decide), hR]; rfl]
    refine W.eq (g2 := F0 m 21 ls [.int 0, .int ((1 : Int32) <<< ((nI s0) &&& 31)), .int (nI 0), .int x, .int (nI s0), .ref (qa_a y 8 0)]) rfl ?_
    refine qa_mVv (k := 8) (i := 0) (As := [.int (nI s0), .int x, .int (nI 0), .int ((1 : Int32) <<< ((nI s0) &&& 31)), .int 0]) E hC (c_RL_send0 l y (qa_up (qa_up v 8 0 4 (nI s0)) 8 0 5 x) s0 x 0 ((1 : Int32) <<< ((nI s0) &&& 31)) hs0 (show 0 * qa_n y + qa_n y ≤ qa_h y by omega)) Nat.one_pos rfl rfl k_RL_50 (qa_fitR (by decide) (by decide)) rfl hl.1 rfl (Nat.le_of_ble_eq_true rfl) d_RL_spreadOut_21 (fun u1 H locs hp1 hC => ?_)
    have hg : qm_gt (qa_up (qa_up v 8 0 4 (nI s0)) 8 0 5 x) = qm_gt v := qm_gt_n (by rw [qa_up_kk (by decide), qa_up_kk (by decide)]) (by rw [qa_up_f (by decide), qa_up_f (by decide)])
    have h9 := hp1.2.1
    rw [hg] at h9
    exact qa_mvret E hC hr hlocks ⟨fun k h8 h9 => by rw [hp1.1 k h9, qa_up_kk h8, qa_up_kk h8], by rw [hp1.1 8 (by decide), qa_up_f (by decide), qa_up_s], by rw [hp1.1 8 (by decide), qa_up_s], by rw [hp1.1 8 (by decide), qa_up_f (by decide), qa_up_f (by decide)], by rw [hp1.1 8 (by decide), qa_up_f (by decide), qa_up_f (by decide)], h9⟩ d_RL_spreadOut_24
  · refine lv_aload_n hx hb d_RL_spreadOut_0 rfl (lv_at hl 0 rfl) ?_
    refine lv_iload_n hx hb d_RL_spreadOut_1 rfl (lv_at hl 1 rfl) ?_
    refine qa_put (k := 8) (i := 0) (f := 4) E hC Nat.one_pos rfl rfl (by decide) f_RL_44 rfl rfl rfl rfl d_RL_spreadOut_2 (fun H locs hC => ?_)
    refine lv_aload_n hx hb d_RL_spreadOut_5 rfl (lv_at hl 0 rfl) ?_
    refine lv_iload_n hx hb d_RL_spreadOut_6 rfl (lv_at hl 2 rfl) ?_
    refine qa_put (k := 8) (i := 0) (f := 5) E hC Nat.one_pos rfl rfl (by decide) f_RL_47 rfl rfl rfl rfl d_RL_spreadOut_7 (fun H locs hC => ?_)
    refine lv_aload_n hx hb d_RL_spreadOut_10 rfl (lv_at hl 0 rfl) ?_
    refine lv_iload_n hx hb d_RL_spreadOut_11 rfl (lv_at hl 1 rfl) ?_
    refine lv_iload_n hx hb d_RL_spreadOut_12 rfl (lv_at hl 2 rfl) ?_
    refine lv_iconst (v := 0) hx hb d_RL_spreadOut_13 (by decide) ?_
    refine lv_iconst (v := 1) hx hb d_RL_spreadOut_14 (by decide) ?_
    refine lv_iload_n hx hb d_RL_spreadOut_15 rfl (lv_at hl 1 rfl) ?_
    refine lv_ishl hx hb d_RL_spreadOut_16 ?_
    refine lv_aload_n hx hb d_RL_spreadOut_17 rfl (lv_at hl 0 rfl) ?_
    refine qa_get (k := 8) (i := 0) (f := 7) (val := .int ((qa_up (qa_up v 8 0 4 (nI s0)) 8 0 5 x) 8 0 7)) E hC Nat.one_pos rfl rfl (by decide) f_RL_29 rfl rfl d_RL_spreadOut_18 ?_
    rw [show (qa_up (qa_up v 8 0 4 (nI s0)) 8 0 5 x) 8 0 7 = 1 by rw [qa_up_f (by decide), qa_up_f (by decide), hR]; rfl]
    refine W.eq (g2 := F0 m 21 ls [.int 1, .int ((1 : Int32) <<< ((nI s0) &&& 31)), .int (nI 0), .int x, .int (nI s0), .ref (qa_a y 8 0)]) rfl ?_
    refine qa_mVv (k := 8) (i := 0) (As := [.int (nI s0), .int x, .int (nI 0), .int ((1 : Int32) <<< ((nI s0) &&& 31)), .int 1]) E hC (c_RL_send1 l y (qa_up (qa_up v 8 0 4 (nI s0)) 8 0 5 x) s0 x 0 ((1 : Int32) <<< ((nI s0) &&& 31)) hs0 (show (0 * qa_n y + qa_n y) * qa_n y + qa_n y ≤ qa_h y by have := b1 hRm; rcases qm_n47 hn4 hn7 with e | e | e | e <;> rw [e] at this ⊢ <;> omega)) Nat.one_pos rfl rfl k_RL_50 (qa_fitR (by decide) (by decide)) rfl hl.1 rfl (Nat.le_of_ble_eq_true rfl) d_RL_spreadOut_21 (fun u2 H locs hp2 hC => ?_)
    have hg : qm_gt (qa_up (qa_up v 8 0 4 (nI s0)) 8 0 5 x) = qm_gt v := qm_gt_n (by rw [qa_up_kk (by decide), qa_up_kk (by decide)]) (by rw [qa_up_f (by decide), qa_up_f (by decide)])
    have h9 := hp2.2.1
    rw [hg] at h9
    exact qa_mvret E hC hr hlocks ⟨fun k h8 h9 => by rw [hp2.1 k h9, qa_up_kk h8, qa_up_kk h8], by rw [hp2.1 8 (by decide), qa_up_f (by decide), qa_up_s], by rw [hp2.1 8 (by decide), qa_up_s], by rw [hp2.1 8 (by decide), qa_up_f (by decide), qa_up_f (by decide)], by rw [hp2.1 8 (by decide), qa_up_f (by decide), qa_up_f (by decide)], h9⟩ d_RL_spreadOut_24
  · refine lv_aload_n hx hb d_RL_spreadOut_0 rfl (lv_at hl 0 rfl) ?_
    refine lv_iload_n hx hb d_RL_spreadOut_1 rfl (lv_at hl 1 rfl) ?_
    refine qa_put (k := 8) (i := 0) (f := 4) E hC Nat.one_pos rfl rfl (by decide) f_RL_44 rfl rfl rfl rfl d_RL_spreadOut_2 (fun H locs hC => ?_)
    refine lv_aload_n hx hb d_RL_spreadOut_5 rfl (lv_at hl 0 rfl) ?_
    refine lv_iload_n hx hb d_RL_spreadOut_6 rfl (lv_at hl 2 rfl) ?_
    refine qa_put (k := 8) (i := 0) (f := 5) E hC Nat.one_pos rfl rfl (by decide) f_RL_47 rfl rfl rfl rfl d_RL_spreadOut_7 (fun H locs hC => ?_)
    refine lv_aload_n hx hb d_RL_spreadOut_10 rfl (lv_at hl 0 rfl) ?_
    refine lv_iload_n hx hb d_RL_spreadOut_11 rfl (lv_at hl 1 rfl) ?_
    refine lv_iload_n hx hb d_RL_spreadOut_12 rfl (lv_at hl 2 rfl) ?_
    refine lv_iconst (v := 0) hx hb d_RL_spreadOut_13 (by decide) ?_
    refine lv_iconst (v := 1) hx hb d_RL_spreadOut_14 (by decide) ?_
    refine lv_iload_n hx hb d_RL_spreadOut_15 rfl (lv_at hl 1 rfl) ?_
    refine lv_ishl hx hb d_RL_spreadOut_16 ?_
    refine lv_aload_n hx hb d_RL_spreadOut_17 rfl (lv_at hl 0 rfl) ?_
    refine qa_get (k := 8) (i := 0) (f := 7) (val := .int ((qa_up (qa_up v 8 0 4 (nI s0)) 8 0 5 x) 8 0 7)) E hC Nat.one_pos rfl rfl (by decide) f_RL_29 rfl rfl d_RL_spreadOut_18 ?_
    rw [show (qa_up (qa_up v 8 0 4 (nI s0)) 8 0 5 x) 8 0 7 = 2 by rw [qa_up_f (by decide), qa_up_f (by decide), hR]; rfl]
    refine W.eq (g2 := F0 m 21 ls [.int 2, .int ((1 : Int32) <<< ((nI s0) &&& 31)), .int (nI 0), .int x, .int (nI s0), .ref (qa_a y 8 0)]) rfl ?_
    refine qa_mVv (k := 8) (i := 0) (As := [.int (nI s0), .int x, .int (nI 0), .int ((1 : Int32) <<< ((nI s0) &&& 31)), .int 2]) E hC (c_RL_send2 l y (qa_up (qa_up v 8 0 4 (nI s0)) 8 0 5 x) s0 x ((1 : Int32) <<< ((nI s0) &&& 31)) hs0 (by have := b2 hRm; rcases qm_n47 hn4 hn7 with e | e | e | e <;> rw [e] at this ⊢ <;> omega)) Nat.one_pos rfl rfl k_RL_50 (qa_fitR (by decide) (by decide)) rfl hl.1 rfl (Nat.le_of_ble_eq_true rfl) d_RL_spreadOut_21 (fun u3 H locs hp3 hC => ?_)
    have hg : qm_gt (qa_up (qa_up v 8 0 4 (nI s0)) 8 0 5 x) = qm_gt v := qm_gt_n (by rw [qa_up_kk (by decide), qa_up_kk (by decide)]) (by rw [qa_up_f (by decide), qa_up_f (by decide)])
    have h9 := hp3.2.1
    rw [hg] at h9
    exact qa_mvret E hC hr hlocks ⟨fun k h8 h9 => by rw [hp3.1 k h9, qa_up_kk h8, qa_up_kk h8], by rw [hp3.1 8 (by decide), qa_up_f (by decide), qa_up_s], by rw [hp3.1 8 (by decide), qa_up_s], by rw [hp3.1 8 (by decide), qa_up_f (by decide), qa_up_f (by decide)], by rw [hp3.1 8 (by decide), qa_up_f (by decide), qa_up_f (by decide)], h9⟩ d_RL_spreadOut_24

set_option maxHeartbeats 4000000 in
set_option maxRecDepth 100000 in
theorem c_RL_agreedBy (l : Launch) (y : qa_L) (v : qa_M) (i s0 L : Nat) (hi : i < qa_n y) (hs0 : s0 < qa_n y) (hs4 : v 8 0 4 = nI s0) (hb9 : qm_bear (qa_m y) (v 2 i 11) = nI L) (hLm : L ≤ qa_m y) : qa_Mi l y_RL_agreedBy b_RL_agreedBy 3 (some .int) 5 [.ref (qa_a y 8 0), .int (nI i)] y v (fun q u => q = (if i = s0 then v 8 0 5 else if qm_in (v 2 i 11) (nI s0) = true then qm_mkL (qa_n y) (v 9 0) (v 2 i 11) s0 i L else 0) ∧ ∀ k, k ≠ 11 → u k = v k) := by
  refine qa_ofMi (plainFor_of_name (by decide)) (Nat.le_of_ble_eq_true rfl) ?_
  intro p e s m below meth c ls E hr hlocks hC hl
  have E : qa_E p m c b_RL_agreedBy 3 s _ "VotedFrames$Relay" y := E
  have F := E.1
  have hx := F.1
  have hb := F.2.1
  have hown : s.vm.findClass "VotedFrames$Relay" = some m.cls := F.2.2.2.1
  have hts := F.2.2.2.2
  have hn4 : 4 ≤ qa_n y := E.2.1.2.2.1
  have hn7 : qa_n y ≤ 7 := E.2.1.2.2.2.1
  have hl : lv_has ls 3 [(0, .ref (qa_a y 8 0)), (1, .int (nI i))] := hl
  obtain ⟨b0, b1, b2⟩ := qm_hbd E.2.1
  have hm2 : qa_m y ≤ 2 := by have := E.2.1.2.2.2.2.1; omega
  rcases (show L = 0 ∨ L = 1 ∨ L = 2 by omega) with rfl | rfl | rfl
  · refine lv_iload_n hx hb d_RL_agreedBy_0 rfl (lv_at hl 1 rfl) ?_
    refine lv_aload_n hx hb d_RL_agreedBy_1 rfl (lv_at hl 0 rfl) ?_
    refine qa_get (k := 8) (i := 0) (f := 4) (val := .int (v 8 0 4)) E hC Nat.one_pos rfl rfl (by decide) f_RL_44 rfl rfl d_RL_agreedBy_2 ?_
    refine lv_icmp_ne hx hb d_RL_agreedBy_5 rfl (fun h5 => ?_) (fun h5 => ?_)
    · refine lv_aload_n hx hb d_RL_agreedBy_13 rfl (lv_at hl 0 rfl) ?_
      refine qa_get (k := 8) (i := 0) (f := 0) (val := .ref (qa_a y 1 0)) E hC Nat.one_pos rfl rfl (by decide) f_RL_7 rfl rfl d_RL_agreedBy_14 ?_
      refine lv_iload_n hx hb d_RL_agreedBy_17 rfl (lv_at hl 1 rfl) ?_
      refine qa_ald (k := 1) (i := 0) (j := i) E hC Nat.one_pos rfl rfl rfl rfl rfl hi d_RL_agreedBy_18 ?_
      refine lv_astore_n hx hb d_RL_agreedBy_19 rfl hl (by decide) rfl (fun ls hl => ?_)
      have hl : lv_has ls 3 [(2, .ref (qa_a y 2 i)), (0, .ref (qa_a y 8 0)), (1, .int (nI i))] := hl
      refine lv_aload_n hx hb d_RL_agreedBy_20 rfl (lv_at hl 0 rfl) ?_
      refine qa_get (k := 2) (i := i) (f := 11) (val := .int (v 2 i 11)) E hC hi rfl rfl (by decide) f_RL_54 rfl rfl d_RL_agreedBy_21 ?_
      refine lv_aload_n hx hb d_RL_agreedBy_24 rfl (lv_at hl 1 rfl) ?_
      refine qa_get (k := 8) (i := 0) (f := 4) (val := .int (v 8 0 4)) E hC Nat.one_pos rfl rfl (by decide) f_RL_44 rfl rfl d_RL_agreedBy_25 ?_
      refine qa_pN (As := [.int (v 2 i 11), .int (v 8 0 4)]) E (c_VF_contains l (v 2 i 11) (v 8 0 4)) k_RL_57 (qa_fitR (by decide) (by decide)) rfl hl.1 rfl (Nat.le_of_ble_eq_true rfl) d_RL_agreedBy_28 ?_
      refine lv_if_ne hx hb d_RL_agreedBy_31 rfl (fun h31 => ?_) (fun h31 => ?_)
      · refine lv_aload_n hx hb d_RL_agreedBy_36 rfl (lv_at hl 1 rfl) ?_
        refine lv_aload_n hx hb d_RL_agreedBy_37 rfl (lv_at hl 0 rfl) ?_
        refine lv_iconst (v := 0) hx hb d_RL_agreedBy_38 (by decide) ?_
        refine lv_iconst (v := 1) hx hb d_RL_agreedBy_39 (by decide) ?_
        refine lv_aload_n hx hb d_RL_agreedBy_40 rfl (lv_at hl 1 rfl) ?_
        refine qa_get (k := 8) (i := 0) (f := 4) (val := .int (v 8 0 4)) E hC Nat.one_pos rfl rfl (by decide) f_RL_44 rfl rfl d_RL_agreedBy_41 ?_
        refine lv_ishl hx hb d_RL_agreedBy_44 ?_
        refine lv_aload_n hx hb d_RL_agreedBy_45 rfl (lv_at hl 0 rfl) ?_
        refine lv_aload_n hx hb d_RL_agreedBy_46 rfl (lv_at hl 1 rfl) ?_
        refine qa_get (k := 8) (i := 0) (f := 1) (val := .int (nI (qa_m y))) E hC Nat.one_pos rfl rfl (by decide) f_RL_13 rfl rfl d_RL_agreedBy_47 ?_
        refine qa_pV (k := 2) (i := i) (As := [.int (nI (qa_m y))]) E hC (c_ND_bearable l y v i (nI (qa_m y)) hi) hi rfl rfl k_RL_32 (qa_fitR (by decide) (by decide)) rfl hl.1 rfl (Nat.le_of_ble_eq_true rfl) d_RL_agreedBy_50 ?_
        rw [show qm_min (nI (qa_m y)) ((qm_bc (v 2 i 11) - 1) / 3) = 0 from hb9]
        rw [hs4]
        refine W.eq (g2 := F0 m 53 ls [.int 0, .int (qm_one s0), .int (nI 0), .ref (qa_a y 2 i), .ref (qa_a y 8 0)]) rfl ?_
        refine qa_mV (k := 8) (i := 0) (As := [.ref (qa_a y 2 i), .int (nI 0), .int (qm_one s0), .int 0]) E hC (c_RL_make0 l y v i 0 (qm_one s0) hi (show 0 * qa_n y + qa_n y ≤ qa_h y by omega)) Nat.one_pos rfl rfl k_RL_63 (qa_fitR (by decide) (by decide)) rfl hl.1 rfl (Nat.le_of_ble_eq_true rfl) d_RL_agreedBy_53 (fun r1 u1 H locs hp1 hC => ?_)
        exact qa_mret E hC hr hlocks ⟨by rw [if_neg (fun z => h5 (by rw [hs4, z])), if_pos (by rw [hs4] at h31; exact qb_n0 h31), hp1.1]; rfl, fun k hk => by rw [hp1.2]⟩ d_RL_agreedBy_56
      · refine lv_iconst (v := 0) hx hb d_RL_agreedBy_34 (by decide) ?_
        exact qa_mret E hC hr hlocks ⟨by rw [if_neg (fun z => h5 (by rw [hs4, z])), if_neg]; rw [hs4] at h31; rw [qb_e0 h31]; decide, fun _ _ => rfl⟩ d_RL_agreedBy_35
    · refine lv_aload_n hx hb d_RL_agreedBy_8 rfl (lv_at hl 0 rfl) ?_
      refine qa_get (k := 8) (i := 0) (f := 5) (val := .int (v 8 0 5)) E hC Nat.one_pos rfl rfl (by decide) f_RL_47 rfl rfl d_RL_agreedBy_9 ?_
      exact qa_mret E hC hr hlocks ⟨by rw [if_pos ((nI_eq (by omega) (by omega)).mp (h5.trans hs4))], fun _ _ => rfl⟩ d_RL_agreedBy_12
  · refine lv_iload_n hx hb d_RL_agreedBy_0 rfl (lv_at hl 1 rfl) ?_
    refine lv_aload_n hx hb d_RL_agreedBy_1 rfl (lv_at hl 0 rfl) ?_
    refine qa_get (k := 8) (i := 0) (f := 4) (val := .int (v 8 0 4)) E hC Nat.one_pos rfl rfl (by decide) f_RL_44 rfl rfl d_RL_agreedBy_2 ?_
    refine lv_icmp_ne hx hb d_RL_agreedBy_5 rfl (fun h5 => ?_) (fun h5 => ?_)
    · refine lv_aload_n hx hb d_RL_agreedBy_13 rfl (lv_at hl 0 rfl) ?_
      refine qa_get (k := 8) (i := 0) (f := 0) (val := .ref (qa_a y 1 0)) E hC Nat.one_pos rfl rfl (by decide) f_RL_7 rfl rfl d_RL_agreedBy_14 ?_
      refine lv_iload_n hx hb d_RL_agreedBy_17 rfl (lv_at hl 1 rfl) ?_
      refine qa_ald (k := 1) (i := 0) (j := i) E hC Nat.one_pos rfl rfl rfl rfl rfl hi d_RL_agreedBy_18 ?_
      refine lv_astore_n hx hb d_RL_agreedBy_19 rfl hl (by decide) rfl (fun ls hl => ?_)
      have hl : lv_has ls 3 [(2, .ref (qa_a y 2 i)), (0, .ref (qa_a y 8 0)), (1, .int (nI i))] := hl
      refine lv_aload_n hx hb d_RL_agreedBy_20 rfl (lv_at hl 0 rfl) ?_
      refine qa_get (k := 2) (i := i) (f := 11) (val := .int (v 2 i 11)) E hC hi rfl rfl (by decide) f_RL_54 rfl rfl d_RL_agreedBy_21 ?_
      refine lv_aload_n hx hb d_RL_agreedBy_24 rfl (lv_at hl 1 rfl) ?_
      refine qa_get (k := 8) (i := 0) (f := 4) (val := .int (v 8 0 4)) E hC Nat.one_pos rfl rfl (by decide) f_RL_44 rfl rfl d_RL_agreedBy_25 ?_
      refine qa_pN (As := [.int (v 2 i 11), .int (v 8 0 4)]) E (c_VF_contains l (v 2 i 11) (v 8 0 4)) k_RL_57 (qa_fitR (by decide) (by decide)) rfl hl.1 rfl (Nat.le_of_ble_eq_true rfl) d_RL_agreedBy_28 ?_
      refine lv_if_ne hx hb d_RL_agreedBy_31 rfl (fun h31 => ?_) (fun h31 => ?_)
      · refine lv_aload_n hx hb d_RL_agreedBy_36 rfl (lv_at hl 1 rfl) ?_
        refine lv_aload_n hx hb d_RL_agreedBy_37 rfl (lv_at hl 0 rfl) ?_
        refine lv_iconst (v := 0) hx hb d_RL_agreedBy_38 (by decide) ?_
        refine lv_iconst (v := 1) hx hb d_RL_agreedBy_39 (by decide) ?_
        refine lv_aload_n hx hb d_RL_agreedBy_40 rfl (lv_at hl 1 rfl) ?_
        refine qa_get (k := 8) (i := 0) (f := 4) (val := .int (v 8 0 4)) E hC Nat.one_pos rfl rfl (by decide) f_RL_44 rfl rfl d_RL_agreedBy_41 ?_
        refine lv_ishl hx hb d_RL_agreedBy_44 ?_
        refine lv_aload_n hx hb d_RL_agreedBy_45 rfl (lv_at hl 0 rfl) ?_
        refine lv_aload_n hx hb d_RL_agreedBy_46 rfl (lv_at hl 1 rfl) ?_
        refine qa_get (k := 8) (i := 0) (f := 1) (val := .int (nI (qa_m y))) E hC Nat.one_pos rfl rfl (by decide) f_RL_13 rfl rfl d_RL_agreedBy_47 ?_
        refine qa_pV (k := 2) (i := i) (As := [.int (nI (qa_m y))]) E hC (c_ND_bearable l y v i (nI (qa_m y)) hi) hi rfl rfl k_RL_32 (qa_fitR (by decide) (by decide)) rfl hl.1 rfl (Nat.le_of_ble_eq_true rfl) d_RL_agreedBy_50 ?_
        rw [show qm_min (nI (qa_m y)) ((qm_bc (v 2 i 11) - 1) / 3) = 1 from hb9]
        rw [hs4]
        refine W.eq (g2 := F0 m 53 ls [.int 1, .int (qm_one s0), .int (nI 0), .ref (qa_a y 2 i), .ref (qa_a y 8 0)]) rfl ?_
        refine qa_mV (k := 8) (i := 0) (As := [.ref (qa_a y 2 i), .int (nI 0), .int (qm_one s0), .int 1]) E hC (c_RL_make1 l y v i 0 (qm_one s0) hi (by omega) (show (0 * qa_n y + qa_n y) * qa_n y + qa_n y ≤ qa_h y by have := b1 hLm; rcases qm_n47 hn4 hn7 with e | e | e | e <;> rw [e] at this ⊢ <;> omega)) Nat.one_pos rfl rfl k_RL_63 (qa_fitR (by decide) (by decide)) rfl hl.1 rfl (Nat.le_of_ble_eq_true rfl) d_RL_agreedBy_53 (fun r2 u2 H locs hp2 hC => ?_)
        exact qa_mret E hC hr hlocks ⟨by rw [if_neg (fun z => h5 (by rw [hs4, z])), if_pos (by rw [hs4] at h31; exact qb_n0 h31), hp2.1]; rfl, fun k hk => by funext b; exact hp2.2 k b (fun z => hk z.1)⟩ d_RL_agreedBy_56
      · refine lv_iconst (v := 0) hx hb d_RL_agreedBy_34 (by decide) ?_
        exact qa_mret E hC hr hlocks ⟨by rw [if_neg (fun z => h5 (by rw [hs4, z])), if_neg]; rw [hs4] at h31; rw [qb_e0 h31]; decide, fun _ _ => rfl⟩ d_RL_agreedBy_35
    · refine lv_aload_n hx hb d_RL_agreedBy_8 rfl (lv_at hl 0 rfl) ?_
      refine qa_get (k := 8) (i := 0) (f := 5) (val := .int (v 8 0 5)) E hC Nat.one_pos rfl rfl (by decide) f_RL_47 rfl rfl d_RL_agreedBy_9 ?_
      exact qa_mret E hC hr hlocks ⟨by rw [if_pos ((nI_eq (by omega) (by omega)).mp (h5.trans hs4))], fun _ _ => rfl⟩ d_RL_agreedBy_12
  · refine lv_iload_n hx hb d_RL_agreedBy_0 rfl (lv_at hl 1 rfl) ?_
    refine lv_aload_n hx hb d_RL_agreedBy_1 rfl (lv_at hl 0 rfl) ?_
    refine qa_get (k := 8) (i := 0) (f := 4) (val := .int (v 8 0 4)) E hC Nat.one_pos rfl rfl (by decide) f_RL_44 rfl rfl d_RL_agreedBy_2 ?_
    refine lv_icmp_ne hx hb d_RL_agreedBy_5 rfl (fun h5 => ?_) (fun h5 => ?_)
    · refine lv_aload_n hx hb d_RL_agreedBy_13 rfl (lv_at hl 0 rfl) ?_
      refine qa_get (k := 8) (i := 0) (f := 0) (val := .ref (qa_a y 1 0)) E hC Nat.one_pos rfl rfl (by decide) f_RL_7 rfl rfl d_RL_agreedBy_14 ?_
      refine lv_iload_n hx hb d_RL_agreedBy_17 rfl (lv_at hl 1 rfl) ?_
      refine qa_ald (k := 1) (i := 0) (j := i) E hC Nat.one_pos rfl rfl rfl rfl rfl hi d_RL_agreedBy_18 ?_
      refine lv_astore_n hx hb d_RL_agreedBy_19 rfl hl (by decide) rfl (fun ls hl => ?_)
      have hl : lv_has ls 3 [(2, .ref (qa_a y 2 i)), (0, .ref (qa_a y 8 0)), (1, .int (nI i))] := hl
      refine lv_aload_n hx hb d_RL_agreedBy_20 rfl (lv_at hl 0 rfl) ?_
      refine qa_get (k := 2) (i := i) (f := 11) (val := .int (v 2 i 11)) E hC hi rfl rfl (by decide) f_RL_54 rfl rfl d_RL_agreedBy_21 ?_
      refine lv_aload_n hx hb d_RL_agreedBy_24 rfl (lv_at hl 1 rfl) ?_
      refine qa_get (k := 8) (i := 0) (f := 4) (val := .int (v 8 0 4)) E hC Nat.one_pos rfl rfl (by decide) f_RL_44 rfl rfl d_RL_agreedBy_25 ?_
      refine qa_pN (As := [.int (v 2 i 11), .int (v 8 0 4)]) E (c_VF_contains l (v 2 i 11) (v 8 0 4)) k_RL_57 (qa_fitR (by decide) (by decide)) rfl hl.1 rfl (Nat.le_of_ble_eq_true rfl) d_RL_agreedBy_28 ?_
      refine lv_if_ne hx hb d_RL_agreedBy_31 rfl (fun h31 => ?_) (fun h31 => ?_)
      · refine lv_aload_n hx hb d_RL_agreedBy_36 rfl (lv_at hl 1 rfl) ?_
        refine lv_aload_n hx hb d_RL_agreedBy_37 rfl (lv_at hl 0 rfl) ?_
        refine lv_iconst (v := 0) hx hb d_RL_agreedBy_38 (by decide) ?_
        refine lv_iconst (v := 1) hx hb d_RL_agreedBy_39 (by decide) ?_
        refine lv_aload_n hx hb d_RL_agreedBy_40 rfl (lv_at hl 1 rfl) ?_
        refine qa_get (k := 8) (i := 0) (f := 4) (val := .int (v 8 0 4)) E hC Nat.one_pos rfl rfl (by decide) f_RL_44 rfl rfl d_RL_agreedBy_41 ?_
        refine lv_ishl hx hb d_RL_agreedBy_44 ?_
        refine lv_aload_n hx hb d_RL_agreedBy_45 rfl (lv_at hl 0 rfl) ?_
        refine lv_aload_n hx hb d_RL_agreedBy_46 rfl (lv_at hl 1 rfl) ?_
        refine qa_get (k := 8) (i := 0) (f := 1) (val := .int (nI (qa_m y))) E hC Nat.one_pos rfl rfl (by decide) f_RL_13 rfl rfl d_RL_agreedBy_47 ?_
        refine qa_pV (k := 2) (i := i) (As := [.int (nI (qa_m y))]) E hC (c_ND_bearable l y v i (nI (qa_m y)) hi) hi rfl rfl k_RL_32 (qa_fitR (by decide) (by decide)) rfl hl.1 rfl (Nat.le_of_ble_eq_true rfl) d_RL_agreedBy_50 ?_
        rw [show qm_min (nI (qa_m y)) ((qm_bc (v 2 i 11) - 1) / 3) = 2 from hb9]
        rw [hs4]
        refine W.eq (g2 := F0 m 53 ls [.int 2, .int (qm_one s0), .int (nI 0), .ref (qa_a y 2 i), .ref (qa_a y 8 0)]) rfl ?_
        refine qa_mV (k := 8) (i := 0) (As := [.ref (qa_a y 2 i), .int (nI 0), .int (qm_one s0), .int 2]) E hC (c_RL_make2 l y v i (qm_one s0) hi (by omega) (by have := b2 hLm; rcases qm_n47 hn4 hn7 with e | e | e | e <;> rw [e] at this ⊢ <;> omega)) Nat.one_pos rfl rfl k_RL_63 (qa_fitR (by decide) (by decide)) rfl hl.1 rfl (Nat.le_of_ble_eq_true rfl) d_RL_agreedBy_53 (fun r3 u3 H locs hp3 hC => ?_)
        exact qa_mret E hC hr hlocks ⟨by rw [if_neg (fun z => h5 (by rw [hs4, z])), if_pos (by rw [hs4] at h31; exact qb_n0 h31), hp3.1]; rfl, fun k hk => by funext b; exact hp3.2 k b (fun z => hk z.1)⟩ d_RL_agreedBy_56
      · refine lv_iconst (v := 0) hx hb d_RL_agreedBy_34 (by decide) ?_
        exact qa_mret E hC hr hlocks ⟨by rw [if_neg (fun z => h5 (by rw [hs4, z])), if_neg]; rw [hs4] at h31; rw [qb_e0 h31]; decide, fun _ _ => rfl⟩ d_RL_agreedBy_35
    · refine lv_aload_n hx hb d_RL_agreedBy_8 rfl (lv_at hl 0 rfl) ?_
      refine qa_get (k := 8) (i := 0) (f := 5) (val := .int (v 8 0 5)) E hC Nat.one_pos rfl rfl (by decide) f_RL_47 rfl rfl d_RL_agreedBy_9 ?_
      exact qa_mret E hC hr hlocks ⟨by rw [if_pos ((nI_eq (by omega) (by omega)).mp (h5.trans hs4))], fun _ _ => rfl⟩ d_RL_agreedBy_12
