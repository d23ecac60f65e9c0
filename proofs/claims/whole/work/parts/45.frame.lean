set_option maxHeartbeats 4000000 in
set_option maxRecDepth 100000 in
theorem c_VF_runFrame (l : Launch) (y : qa_L) (v : qa_M) (hm : qm_mok y v) (hp : qm_pok (qa_n y) v) (h19 : v 19 0 = fun _ => 0) : qa_Mi l y_VF_runFrame b_VF_runFrame 2 (some .int) 8 [.ref (qa_a y 0 0)] y v (fun r u => r = qm_FS y v ∧ qm_eq u (qm_FR y v)) := by
  refine qa_ofMi (plainFor_of_name (by decide)) (Nat.le_of_ble_eq_true rfl) ?_
  intro p e s m below meth c ls E hr hlocks hC hl
  have E : qa_E p m c b_VF_runFrame 2 s _ "VotedFrames" y := E
  have F := E.1
  have hx := F.1
  have hb := F.2.1
  have hown : s.vm.findClass "VotedFrames" = some m.cls := F.2.2.2.1
  have hts := F.2.2.2.2
  have hn4 : 4 ≤ qa_n y := E.2.1.2.2.1
  have hn7 : qa_n y ≤ 7 := E.2.1.2.2.2.1
  have hl : lv_has ls 2 [(0, .ref (qa_a y 0 0))] := hl
  have hm2 : qa_m y ≤ 2 := by have := E.2.1.2.2.2.2.1; omega
  obtain ⟨V0, hV0⟩ : ∃ V0, V0 = qm_P0 y v := ⟨_, rfl⟩
  have z2 : ∀ b f, f ≠ 12 → V0 2 b f = v 2 b f := fun b f hf => by rw [hV0]; unfold qm_P0; rw [if_neg (fun z => hf z.2.2)]
  have zk : ∀ a, a ≠ 2 → V0 a = v a := fun a ha => by rw [hV0]; funext b f; unfold qm_P0; rw [if_neg (fun z => ha z.1)]
  have z12 : ∀ i, i < qa_n y → V0 2 i 12 = qm_hm y V0 i (qa_n y) := by
    intro i hi
    rw [qm_hm_m (v := v) (z2 i 11 (by decide)) (fun j => z2 j 9 (by decide)) (fun j => z2 j 6 (by decide)) (fun j => by rw [zk 3 (by decide)]), hV0]
    unfold qm_P0
    rw [if_pos ⟨rfl, hi, rfl⟩]
  have zm : qm_mok y V0 := qm_mok_n (fun i => z2 i 11 (by decide)) hm
  have zp : qm_pok (qa_n y) V0 := qm_pok_n (zk 13 (by decide)) (zk 14 (by decide)) (zk 15 (by decide)) hp
  have zv : qm_vok y V0 := qm_vok_of hn4 hn7 zm z12
  obtain ⟨R, eR, hRm, hRb⟩ := qm_rds_ok (f := fun k => V0 2 k 11) (b := qm_bn y V0) hm2 (qa_n y) (fun i hi => qm_bn_ok hn7 hm2 (zm i hi).1)
  refine lv_aload_n hx hb d_VF_runFrame_0 rfl (lv_at hl 0 rfl) ?_
  refine qa_mVv (k := 0) (i := 0) (As := []) E hC (c_VF_openLines l y v) Nat.one_pos rfl rfl k_VF_172 (qa_fitR (by decide) (by decide)) rfl hl.1 rfl (Nat.le_of_ble_eq_true rfl) d_VF_runFrame_1 (fun u1 H locs hp1 hC => ?_)
  rw [show u1 = V0 from hp1.trans hV0.symm] at hC
  refine lv_aload_n hx hb d_VF_runFrame_4 rfl (lv_at hl 0 rfl) ?_
  refine qa_get (k := 0) (i := 0) (f := 4) (val := .ref (qa_a y 8 0)) E hC Nat.one_pos rfl rfl (by decide) f_VF_40 rfl rfl d_VF_runFrame_5 ?_
  refine lv_aload_n hx hb d_VF_runFrame_8 rfl (lv_at hl 0 rfl) ?_
  refine qa_get (k := 0) (i := 0) (f := 11) (val := .int (V0 0 0 11)) E hC Nat.one_pos rfl rfl (by decide) f_VF_127 rfl rfl d_VF_runFrame_9 ?_
  refine qa_mVv (k := 8) (i := 0) (As := [.int (V0 0 0 11)]) E hC (c_RL_beginFrame l y V0 (V0 0 0 11)) Nat.one_pos rfl rfl k_VF_175 (qa_fitR (by decide) (by decide)) rfl hl.1 rfl (Nat.le_of_ble_eq_true rfl) d_VF_runFrame_12 (fun u2 H locs hp2 hC => ?_)
  have b1 : ∀ a, a ≠ 8 → u2 a = V0 a := fun a ha => by rw [hp2, qa_up_kk ha, qa_up_kk ha]
  have b6 : u2 8 0 6 = u2 0 0 11 := by rw [b1 0 (by decide), hp2, qa_up_f (by decide), qa_up_s]
  have b7 : u2 8 0 7 = nI R := by rw [hp2, qa_up_s]; exact eR
  have b12 : ∀ i, i < qa_n y → u2 2 i 12 = qm_hm y u2 i (qa_n y) := fun i hi => by rw [qm_hm_n (fun a => by rw [b1 2 (by decide)]) (fun a => by rw [b1 3 (by decide)]), b1 2 (by decide)]; exact z12 i hi
  have bb : ∀ i, i < qa_n y → qm_bear (qa_m y) (u2 2 i 11) = nI (qm_bn y u2 i) ∧ qm_bn y u2 i ≤ R := fun i hi => by
    have e1 : qm_bn y u2 i = qm_bn y V0 i := by unfold qm_bn; rw [b1 2 (by decide)]
    rw [e1, b1 2 (by decide)]
    exact ⟨(qm_bn_ok hn7 hm2 (zm i hi).1).1, hRb i hi⟩
  refine lv_aload_n hx hb d_VF_runFrame_15 rfl (lv_at hl 0 rfl) ?_
  refine qa_mVv (k := 0) (i := 0) (As := []) E hC (c_VF_agreeOnSensors l y u2 R (qm_bn y u2) b7 hRm bb) Nat.one_pos rfl rfl k_VF_179 (qa_fitR (by decide) (by decide)) rfl hl.1 rfl (Nat.le_of_ble_eq_true rfl) d_VF_runFrame_16 (fun u3 H locs hp3 hC => ?_)
  have c1 : ∀ a, a ≠ 8 → a ≠ 9 → a ≠ 11 → u3 a = qm_P1 y V0 a := by
    intro a h8 h9 h11
    funext b f
    unfold qm_P1
    by_cases k1 : a = 5 ∧ b < qa_n y ∧ f < qa_n y
    · rw [if_pos k1]
      obtain ⟨rfl, hb9, hf9⟩ := k1
      rw [hp3.2.2.2.1 b hb9 f hf9, qm_ac_AG hn7 hf9 hb9 b12 b6, qm_AG_n (b1 0 (by decide)) (b1 2 (by decide)) (b1 3 (by decide)), b1 2 (by decide)]
    · rw [if_neg k1]
      by_cases k2 : a = 2 ∧ b < qa_n y ∧ f = 13
      · rw [if_pos k2]
        obtain ⟨rfl, hb9, rfl⟩ := k2
        exact hp3.2.2.2.2 b hb9
      · rw [if_neg k2, hp3.1 a b f h8 h9 h11 k1 k2, b1 a h8]
  have c2 : ∀ b f, f ≠ 13 → u3 2 b f = V0 2 b f := fun b f hf => by rw [c1 2 (by decide) (by decide) (by decide)]; unfold qm_P1; rw [if_neg (fun z => absurd z.1 (by decide)), if_neg (fun z => hf z.2.2)]
  have ck : ∀ a, a ≠ 8 → a ≠ 9 → a ≠ 11 → a ≠ 5 → a ≠ 2 → u3 a = V0 a := fun a h8 h9 h11 h5 h2 => by rw [c1 a h8 h9 h11]; funext b f; unfold qm_P1; rw [if_neg (fun z => h5 z.1), if_neg (fun z => h2 z.1)]
  have c6 : u3 8 0 6 = V0 0 0 11 := by rw [hp3.2.1, b6, b1 0 (by decide)]
  have c7 : u3 8 0 7 = nI R := hp3.2.2.1.trans b7
  have cv : qm_vok y u3 := qm_vok_n c2 (ck 3 (by decide) (by decide) (by decide) (by decide) (by decide)) (by rw [ck 0 (by decide) (by decide) (by decide) (by decide) (by decide)]) zv
  have cp : qm_pok (qa_n y) u3 := qm_pok_n (ck 13 (by decide) (by decide) (by decide) (by decide) (by decide)) (ck 14 (by decide) (by decide) (by decide) (by decide) (by decide)) (ck 15 (by decide) (by decide) (by decide) (by decide) (by decide)) zp
  have c19 : u3 19 0 = fun _ => 0 := by rw [ck 19 (by decide) (by decide) (by decide) (by decide) (by decide), zk 19 (by decide)]; exact h19
  refine lv_aload_n hx hb d_VF_runFrame_19 rfl (lv_at hl 0 rfl) ?_
  refine qa_mVv (k := 0) (i := 0) (As := []) E hC (c_VF_runDueTasks l y u3 cv cp c19) Nat.one_pos rfl rfl k_VF_182 (qa_fitR (by decide) (by decide)) rfl hl.1 rfl (Nat.le_of_ble_eq_true rfl) d_VF_runFrame_20 (fun u4 H locs hp4 hC => ?_)
  have d2 : ∀ b f, f ≠ 13 → u4 2 b f = V0 2 b f := fun b f hf => by rw [hp4 2 (by decide) (by decide) (by decide) (by decide), qm_P2_k 4 (by decide) (by decide) (fun z => hf z.2)]; exact c2 b f hf
  have d8 : u4 8 = u3 8 := by rw [hp4 8 (by decide) (by decide) (by decide) (by decide), qm_P2_kk 4 (by decide) (by decide) (by decide)]
  have d3 : u4 3 = V0 3 := by rw [hp4 3 (by decide) (by decide) (by decide) (by decide), qm_P2_kk 4 (by decide) (by decide) (by decide)]; exact ck 3 (by decide) (by decide) (by decide) (by decide) (by decide)
  have d0 : u4 0 = V0 0 := by rw [hp4 0 (by decide) (by decide) (by decide) (by decide), qm_P2_kk 4 (by decide) (by decide) (by decide)]; exact ck 0 (by decide) (by decide) (by decide) (by decide) (by decide)
  have d6 : u4 8 0 6 = u4 0 0 11 := by rw [d8, c6, d0]
  have d7 : u4 8 0 7 = nI R := by rw [d8]; exact c7
  have d12 : ∀ i, i < qa_n y → u4 2 i 12 = qm_hm y u4 i (qa_n y) := fun i hi => by rw [qm_hm_m (v := V0) (d2 i 11 (by decide)) (fun j => d2 j 9 (by decide)) (fun j => d2 j 6 (by decide)) (fun j => by rw [d3]), d2 i 12 (by decide)]; exact z12 i hi
  have db : ∀ i, i < qa_n y → qm_bear (qa_m y) (u4 2 i 11) = nI (qm_bn y u4 i) ∧ qm_bn y u4 i ≤ R := fun i hi => by
    have e1 : qm_bn y u4 i = qm_bn y V0 i := by unfold qm_bn; rw [d2 i 11 (by decide)]
    rw [e1, d2 i 11 (by decide)]
    exact ⟨(qm_bn_ok hn7 hm2 (zm i hi).1).1, hRb i hi⟩
  have dq : qm_eq u4 (qm_P2 y (qm_P1 y V0) 4) := fun a a1 a2 a3 a4 a5 a6 a7 => by
    rw [hp4 a a4 a5 a6 a7]
    exact qm_P2_n (fun a a1 a2 a3 _ _ _ _ => c1 a a1 a2 a3) 4 a a1 a2 a3 a4 a5 a6 a7
  refine lv_aload_n hx hb d_VF_runFrame_23 rfl (lv_at hl 0 rfl) ?_
  refine qa_mVv (k := 0) (i := 0) (As := []) E hC (c_VF_agreeOnAccused l y u4 R (qm_bn y u4) d7 hRm db) Nat.one_pos rfl rfl k_VF_185 (qa_fitR (by decide) (by decide)) rfl hl.1 rfl (Nat.le_of_ble_eq_true rfl) d_VF_runFrame_24 (fun u5 H locs hp5 hC => ?_)
  have f1 : qm_eq u5 (qm_F3 y v) := by
    have f0 : qm_eq u5 (qm_P3 y u4) := by
      intro a a1 a2 a3 a4 a5 a6 a7
      funext b f
      unfold qm_P3
      by_cases k1 : a = 6 ∧ b < qa_n y ∧ f < qa_n y
      · rw [if_pos k1]
        obtain ⟨rfl, hb9, hf9⟩ := k1
        rw [hp5.2.2.2 b hb9 f hf9, qm_ac_AG hn7 hf9 hb9 d12 d6]
      · rw [if_neg k1]
        exact hp5.1 a b f a1 a2 a3 k1
    refine qm_eq_t f0 ?_
    unfold qm_F3
    rw [← hV0]
    exact qm_P3_n dq
  refine lv_aload_n hx hb d_VF_runFrame_27 rfl (lv_at hl 0 rfl) ?_
  refine qa_mV (k := 0) (i := 0) (As := []) E hC (c_VF_strikeOut l y u5) Nat.one_pos rfl rfl k_VF_188 (qa_fitR (by decide) (by decide)) rfl hl.1 rfl (Nat.le_of_ble_eq_true rfl) d_VF_runFrame_28 (fun r6 u6 H locs hp6 hC => ?_)
  have g1 : r6 = qm_FS y v := by rw [hp6.1]; exact qm_sk_n f1 _
  have g2 : qm_eq u6 (qm_P4 y (qm_F3 y v)) := by rw [hp6.2]; exact qm_P4_n f1
  refine lv_istore_n hx hb d_VF_runFrame_31 rfl hl (by decide) rfl (fun ls hl => ?_)
  have hl : lv_has ls 2 [(1, .int r6), (0, .ref (qa_a y 0 0))] := hl
  refine lv_aload_n hx hb d_VF_runFrame_32 rfl (lv_at hl 1 rfl) ?_
  refine qa_mVv (k := 0) (i := 0) (As := []) E hC (c_VF_correctClocks l y u6) Nat.one_pos rfl rfl k_VF_191 (qa_fitR (by decide) (by decide)) rfl hl.1 rfl (Nat.le_of_ble_eq_true rfl) d_VF_runFrame_33 (fun u7 H locs hp7 hC => ?_)
  have h1 : qm_eq u7 (qm_P5 y (qm_P4 y (qm_F3 y v))) := by rw [hp7]; exact qm_P5_n g2
  have h2 : u7 0 0 11 = v 0 0 11 := by
    rw [(qm_eq_k h1).1, qm_P5_k (by decide), qm_P4_k (by decide), qm_F3_k (by decide) (by decide) (by decide) (by decide) (by decide)]
  refine lv_aload_n hx hb d_VF_runFrame_36 rfl (lv_at hl 1 rfl) ?_
  refine lv_dup hx hb d_VF_runFrame_37 rfl ?_
  refine qa_get (k := 0) (i := 0) (f := 11) (val := .int (u7 0 0 11)) E hC Nat.one_pos rfl rfl (by decide) f_VF_127 rfl rfl d_VF_runFrame_38 ?_
  refine lv_iconst (v := 1) hx hb d_VF_runFrame_41 (by decide) ?_
  refine lv_iadd hx hb d_VF_runFrame_42 ?_
  refine qa_put (k := 0) (i := 0) (f := 11) E hC Nat.one_pos rfl rfl (by decide) f_VF_127 rfl rfl rfl rfl d_VF_runFrame_43 (fun H locs hC => ?_)
  refine lv_iload_n hx hb d_VF_runFrame_46 rfl (lv_at hl 0 rfl) ?_
  exact qa_mret E hC hr hlocks ⟨g1, by unfold qm_FR; rw [h2]; exact qm_up_n h1⟩ d_VF_runFrame_47
