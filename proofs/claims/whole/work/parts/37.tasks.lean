set_option maxHeartbeats 4000000 in
set_option maxRecDepth 100000 in
theorem c_VF_runOnAllNodes (l : Launch) (y : qa_L) (v : qa_M) (t L : Nat) (ht : t < 4) (hL : v 13 t 2 = nI L) (hL12 : L ≤ 12) (hP : ∀ z, z < L → qm_iok (qa_n y) (v 14 t z) (v 15 t z)) (hv : qm_vok y v) : qa_Mv l y_VF_runOnAllNodes b_VF_runOnAllNodes 3 3 [.ref (qa_a y 0 0), .int (nI t)] y v (fun u => ∀ a, a ≠ 16 → a ≠ 17 → a ≠ 20 → a ≠ 21 → u a = qm_Pv y t v a) := by
  refine qa_ofMv (plainFor_of_name (by decide)) (Nat.le_of_ble_eq_true rfl) ?_
  intro p e s m below meth c ls E hr hlocks hC hl
  have E : qa_E p m c b_VF_runOnAllNodes 3 s _ "VotedFrames" y := E
  have F := E.1
  have hx := F.1
  have hb := F.2.1
  have hown : s.vm.findClass "VotedFrames" = some m.cls := F.2.2.2.1
  have hts := F.2.2.2.2
  have hn4 : 4 ≤ qa_n y := E.2.1.2.2.1
  have hn7 : qa_n y ≤ 7 := E.2.1.2.2.2.1
  have hl : lv_has ls 3 [(0, .ref (qa_a y 0 0)), (1, .int (nI t))] := hl
  have hrs : ∀ i, qm_rs v t i = qm_ex (v 14 t) (v 15 t) (v 5 i) (v 7 i) L 0 0 [] := fun i => by unfold qm_rs; rw [hL, qm_ix_n (by omega)]
  have loop : ∀ (d k : Nat) (u : qa_M) (H : Heap) (locs : List Loc) (ls : Array Slot), k + d = qa_n y → qa_C y u s H locs → ((∀ a, a ≠ 16 → a ≠ 17 → a ≠ 20 → u a = v a) ∧ ∀ i, i < k → u 20 0 i = qm_rs v t i) → lv_has ls 3 [(2, .int (nI k)), (0, .ref (qa_a y 0 0)), (1, .int (nI t))] → W p l e (qa_R 3) s m [.ref (qa_a y 0 0), .int (nI t)].toArray below meth c H locs 0 0 (MQ below (va_Qv (fun u => ∀ a, a ≠ 16 → a ≠ 17 → a ≠ 20 → a ≠ 21 → u a = qm_Pv y t v a) (fun u t => qa_W y u t) (qa_A y)) [.ref (qa_a y 0 0), .int (nI t)].toArray s 0 0 (qa_A y)) (F0 m 2 ls []) := by
    intro d
    induction d with
    | zero =>
      intro k u H locs ls hkd hC hI hl
      obtain rfl : qa_n y = k := by omega
      refine lv_iload_n hx hb d_VF_runOnAllNodes_2 rfl (lv_at hl 0 rfl) ?_
      refine lv_aload_n hx hb d_VF_runOnAllNodes_3 rfl (lv_at hl 1 rfl) ?_
      refine qa_get (k := 0) (i := 0) (f := 0) (val := .int (nI (qa_n y))) E hC Nat.one_pos rfl rfl (by decide) f_VF_13 rfl rfl d_VF_runOnAllNodes_4 ?_
      refine lv_icmp_ge hx hb d_VF_runOnAllNodes_7 rfl (fun _ => ?_) (fun h9 => absurd (nI_le (Nat.le_refl _) (by omega)) h9)
      refine lv_iconst (v := 0) hx hb d_VF_runOnAllNodes_53 (by decide) ?_
      refine lv_istore_n hx hb d_VF_runOnAllNodes_54 rfl hl (by decide) rfl (fun ls hl => ?_)
      have hl : lv_has ls 3 [(2, .int 0), (0, .ref (qa_a y 0 0)), (1, .int (nI t))] := hl
      have hI1 := hI
      have loop2 : ∀ (d i : Nat) (u : qa_M) (H : Heap) (locs : List Loc) (ls : Array Slot), i + d = qa_n y → qa_C y u s H locs → ((∀ a b f, a ≠ 16 → a ≠ 17 → a ≠ 20 → a ≠ 21 → ¬ (a = 7 ∧ b < i ∧ f = t) → ¬ (a = 2 ∧ b < i ∧ f = 13) → u a b f = v a b f) ∧ (∀ c9, c9 < qa_n y → u 20 0 c9 = qm_rs v t c9) ∧ ∀ c9, c9 < i → u 7 c9 t = (qm_wn y v (qm_rs v t) c9).getD 0 ∧ u 2 c9 13 = qm_va y v (qm_rs v t) c9 (v 2 c9 13)) → lv_has ls 3 [(2, .int (nI i)), (0, .ref (qa_a y 0 0)), (1, .int (nI t))] → W p l e (qa_R 3) s m [.ref (qa_a y 0 0), .int (nI t)].toArray below meth c H locs 0 0 (MQ below (va_Qv (fun u => ∀ a, a ≠ 16 → a ≠ 17 → a ≠ 20 → a ≠ 21 → u a = qm_Pv y t v a) (fun u t => qa_W y u t) (qa_A y)) [.ref (qa_a y 0 0), .int (nI t)].toArray s 0 0 (qa_A y)) (F0 m 55 ls []) := by
        intro d
        induction d with
        | zero =>
          intro i u H locs ls hkd hC hI2 hl
          obtain rfl : qa_n y = i := by omega
          refine lv_iload_n hx hb d_VF_runOnAllNodes_55 rfl (lv_at hl 0 rfl) ?_
          refine lv_aload_n hx hb d_VF_runOnAllNodes_56 rfl (lv_at hl 1 rfl) ?_
          refine qa_get (k := 0) (i := 0) (f := 0) (val := .int (nI (qa_n y))) E hC Nat.one_pos rfl rfl (by decide) f_VF_13 rfl rfl d_VF_runOnAllNodes_57 ?_
          refine lv_icmp_ge hx hb d_VF_runOnAllNodes_60 rfl (fun _ => ?_) (fun h9 => absurd (nI_le (Nat.le_refl _) (by omega)) h9)
          exact qa_mvret E hC hr hlocks (fun a h1 h2 h3 h4 => by
              funext b f
              unfold qm_Pv
              by_cases c1 : a = 7 ∧ b < qa_n y ∧ f = t
              · rw [if_pos c1]
                obtain ⟨rfl, hb9, rfl⟩ := c1
                exact (hI2.2.2 b hb9).1
              · rw [if_neg c1]
                by_cases c2 : a = 2 ∧ b < qa_n y ∧ f = 13
                · rw [if_pos c2]
                  obtain ⟨rfl, hb9, rfl⟩ := c2
                  exact (hI2.2.2 b hb9).2
                · rw [if_neg c2]
                  exact hI2.1 a b f h1 h2 h3 h4 c1 c2) d_VF_runOnAllNodes_80
        | succ d ih2 =>
          intro i u H locs ls hkd hC hI2 hl
          have hi : i < qa_n y := by omega
          refine lv_iload_n hx hb d_VF_runOnAllNodes_55 rfl (lv_at hl 0 rfl) ?_
          refine lv_aload_n hx hb d_VF_runOnAllNodes_56 rfl (lv_at hl 1 rfl) ?_
          refine qa_get (k := 0) (i := 0) (f := 0) (val := .int (nI (qa_n y))) E hC Nat.one_pos rfl rfl (by decide) f_VF_13 rfl rfl d_VF_runOnAllNodes_57 ?_
          refine lv_icmp_ge hx hb d_VF_runOnAllNodes_60 rfl (fun h9 => absurd h9 (nI_ge hi (by omega))) (fun _ => ?_)
          refine lv_aload_n hx hb d_VF_runOnAllNodes_63 rfl (lv_at hl 1 rfl) ?_
          refine lv_aload_n hx hb d_VF_runOnAllNodes_64 rfl (lv_at hl 1 rfl) ?_
          refine qa_get (k := 0) (i := 0) (f := 3) (val := .ref (qa_a y 1 0)) E hC Nat.one_pos rfl rfl (by decide) f_VF_31 rfl rfl d_VF_runOnAllNodes_65 ?_
          refine lv_iload_n hx hb d_VF_runOnAllNodes_68 rfl (lv_at hl 0 rfl) ?_
          refine qa_ald (k := 1) (i := 0) (j := i) E hC Nat.one_pos rfl rfl rfl rfl rfl hi d_VF_runOnAllNodes_69 ?_
          refine lv_iload_n hx hb d_VF_runOnAllNodes_70 rfl (lv_at hl 2 rfl) ?_
          have m11 : ∀ j, u 2 j 11 = v 2 j 11 := fun j => hI2.1 2 j 11 (by decide) (by decide) (by decide) (by decide) (by omega) (by omega)
          have m9 : ∀ j, u 2 j 9 = v 2 j 9 := fun j => hI2.1 2 j 9 (by decide) (by decide) (by decide) (by decide) (by omega) (by omega)
          have m10 : ∀ j, u 2 j 10 = v 2 j 10 := fun j => hI2.1 2 j 10 (by decide) (by decide) (by decide) (by decide) (by omega) (by omega)
          have m6 : ∀ j, u 2 j 6 = v 2 j 6 := fun j => hI2.1 2 j 6 (by decide) (by decide) (by decide) (by decide) (by omega) (by omega)
          have m3 : ∀ a j, u 3 a j = v 3 a j := fun a j => hI2.1 3 a j (by decide) (by decide) (by decide) (by decide) (by omega) (by omega)
          have m0 : u 0 0 11 = v 0 0 11 := hI2.1 0 0 11 (by decide) (by decide) (by decide) (by decide) (by omega) (by omega)
          have ehm : qm_hm y u i (qa_n y) = qm_hm y v i (qa_n y) := qm_hm_m (m11 i) m9 m6 (m3 i) _
          have vhh : u 2 i 12 = qm_hm y u i (qa_n y) := by rw [ehm, hI2.1 2 i 12 (by decide) (by decide) (by decide) (by decide) (by omega) (by omega)]; exact hv.1 i hi
          have vs0 : qm_sz u i = qm_sz v i := by unfold qm_sz; rw [m11]
          have vsz : qm_bc (u 2 i 11) = nI (qm_sz u i) ∧ qm_sz u i ≤ 7 := by rw [vs0, m11]; exact hv.2.1 i hi
          have ebl : qm_bl y u (u 20 0) i (qa_n y) = qm_bl y v (qm_rs v t) i (qa_n y) := qm_bl_n hi (m11 i) m9 m10 m6 (m3 i) m0 hI2.2.1
          have vlen : (qm_bl y u (u 20 0) i (qa_n y)).length ≤ qm_sz u i := by rw [ebl, vs0]; exact hv.2.2 i hi _
          refine qa_mVv (k := 0) (i := 0) (As := [.ref (qa_a y 2 i), .int (nI t)]) E hC (c_VF_vote l y u i t hi ht vhh vsz vlen) Nat.one_pos rfl rfl k_VF_217 (qa_fitR (by decide) (by decide)) rfl hl.1 rfl (Nat.le_of_ble_eq_true rfl) d_VF_runOnAllNodes_71 (fun u1 H locs hp1 hC => ?_)
          refine lv_iinc (v := nI (i + 1)) hx hb d_VF_runOnAllNodes_74 hl (k := 0) rfl (nI_1 i) (by decide) rfl (fun ls hl => ?_)
          have hl : lv_has ls 3 [(2, .int (nI (i + 1))), (0, .ref (qa_a y 0 0)), (1, .int (nI t))] := hl
          refine lv_goto hx hb d_VF_runOnAllNodes_77 rfl ?_
          have k1 : qm_wn y u (u 20 0) i = qm_wn y v (qm_rs v t) i := qm_wn_m hi (m11 i) m9 m10 m6 (m3 i) m0 hI2.2.1
          have k2 : qm_va y u (u 20 0) i (u 2 i 13) = qm_va y v (qm_rs v t) i (v 2 i 13) := qm_va_m hi (m11 i) m9 m10 m6 (m3 i) m0 hI2.2.1 (hI2.1 2 i 13 (by decide) (by decide) (by decide) (by decide) (by omega) (by omega))
          rw [k1, k2] at hp1
          refine ih2 (i + 1) u1 H locs ls (by omega) hC ⟨fun a b f h1 h2 h3 h4 h5 h6 => ?_, fun j hj => ?_, lt_s (fun j hj => ?_) ?_⟩ (lv_sub hl [0, 1, 2] rfl)
          · rw [hp1.1 a b f h4 (fun z => h5 ⟨z.1, by omega, z.2.2⟩) (fun z => h6 ⟨z.1, by omega, z.2.2⟩)]; exact hI2.1 a b f h1 h2 h3 h4 (fun z => h5 ⟨z.1, by omega, z.2.2⟩) (fun z => h6 ⟨z.1, by omega, z.2.2⟩)
          · rw [hp1.1 20 0 j (by decide) (by omega) (by omega)]; exact hI2.2.1 j hj
          · rw [hp1.1 7 j t (by decide) (by omega) (by omega), hp1.1 2 j 13 (by decide) (by omega) (by omega)]; exact hI2.2.2 j hj
          · exact hp1.2
      exact loop2 (qa_n y) 0 u H locs ls (by omega) hC ⟨fun a b f h1 h2 h3 _ _ _ => by rw [hI1.1 a h1 h2 h3], hI1.2, fun i hi => absurd hi (by omega)⟩ (lv_sub hl [0, 1, 2] rfl)
    | succ d ih =>
      intro k u H locs ls hkd hC hI hl
      have hk : k < qa_n y := by omega
      refine lv_iload_n hx hb d_VF_runOnAllNodes_2 rfl (lv_at hl 0 rfl) ?_
      refine lv_aload_n hx hb d_VF_runOnAllNodes_3 rfl (lv_at hl 1 rfl) ?_
      refine qa_get (k := 0) (i := 0) (f := 0) (val := .int (nI (qa_n y))) E hC Nat.one_pos rfl rfl (by decide) f_VF_13 rfl rfl d_VF_runOnAllNodes_4 ?_
      refine lv_icmp_ge hx hb d_VF_runOnAllNodes_7 rfl (fun h9 => absurd h9 (nI_ge hk (by omega))) (fun _ => ?_)
      refine lv_aload_n hx hb d_VF_runOnAllNodes_10 rfl (lv_at hl 1 rfl) ?_
      refine qa_get (k := 0) (i := 0) (f := 9) (val := .ref (qa_a y 20 0)) E hC Nat.one_pos rfl rfl (by decide) f_VF_66 rfl rfl d_VF_runOnAllNodes_11 ?_
      refine lv_iload_n hx hb d_VF_runOnAllNodes_14 rfl (lv_at hl 0 rfl) ?_
      refine lv_aload_n hx hb d_VF_runOnAllNodes_15 rfl (lv_at hl 1 rfl) ?_
      refine qa_get (k := 0) (i := 0) (f := 6) (val := .ref (qa_a y 16 0)) E hC Nat.one_pos rfl rfl (by decide) f_VF_55 rfl rfl d_VF_runOnAllNodes_16 ?_
      refine lv_aload_n hx hb d_VF_runOnAllNodes_19 rfl (lv_at hl 1 rfl) ?_
      refine qa_get (k := 0) (i := 0) (f := 5) (val := .ref (qa_a y 12 0)) E hC Nat.one_pos rfl rfl (by decide) f_VF_48 rfl rfl d_VF_runOnAllNodes_20 ?_
      refine lv_iload_n hx hb d_VF_runOnAllNodes_23 rfl (lv_at hl 2 rfl) ?_
      refine qa_ald (k := 12) (i := 0) (j := t) E hC Nat.one_pos rfl rfl rfl rfl rfl ht d_VF_runOnAllNodes_24 ?_
      refine lv_aload_n hx hb d_VF_runOnAllNodes_25 rfl (lv_at hl 1 rfl) ?_
      refine qa_get (k := 0) (i := 0) (f := 3) (val := .ref (qa_a y 1 0)) E hC Nat.one_pos rfl rfl (by decide) f_VF_31 rfl rfl d_VF_runOnAllNodes_26 ?_
      refine lv_iload_n hx hb d_VF_runOnAllNodes_29 rfl (lv_at hl 0 rfl) ?_
      refine qa_ald (k := 1) (i := 0) (j := k) E hC Nat.one_pos rfl rfl rfl rfl rfl hk d_VF_runOnAllNodes_30 ?_
      refine qa_get (k := 2) (i := k) (f := 3) (val := .ref (qa_a y 5 k)) E hC hk rfl rfl (by decide) f_VF_133 rfl rfl d_VF_runOnAllNodes_31 ?_
      refine lv_aload_n hx hb d_VF_runOnAllNodes_34 rfl (lv_at hl 1 rfl) ?_
      refine qa_get (k := 0) (i := 0) (f := 3) (val := .ref (qa_a y 1 0)) E hC Nat.one_pos rfl rfl (by decide) f_VF_31 rfl rfl d_VF_runOnAllNodes_35 ?_
      refine lv_iload_n hx hb d_VF_runOnAllNodes_38 rfl (lv_at hl 0 rfl) ?_
      refine qa_ald (k := 1) (i := 0) (j := k) E hC Nat.one_pos rfl rfl rfl rfl rfl hk d_VF_runOnAllNodes_39 ?_
      refine qa_get (k := 2) (i := k) (f := 5) (val := .ref (qa_a y 7 k)) E hC hk rfl rfl (by decide) f_VF_139 rfl rfl d_VF_runOnAllNodes_40 ?_
      refine qa_mV (k := 16) (i := 0) (As := [.ref (qa_a y 13 t), .ref (qa_a y 5 k), .ref (qa_a y 7 k)]) E hC (c_SM_resultOf_5_7 l y u t L k ht (by rw [hI.1 13 (by decide) (by decide) (by decide)]; exact hL) hL12 (fun z hz => by rw [hI.1 14 (by decide) (by decide) (by decide), hI.1 15 (by decide) (by decide) (by decide)]; exact hP z hz) hk) Nat.one_pos rfl rfl k_VF_213 (qa_fitR (by decide) (by decide)) rfl hl.1 rfl (Nat.le_of_ble_eq_true rfl) d_VF_runOnAllNodes_43 (fun r2 u2 H locs hp2 hC => ?_)
      refine qa_ist (k := 20) (i := 0) (j := k) E hC Nat.one_pos rfl rfl rfl hk d_VF_runOnAllNodes_46 (fun H locs hC => ?_)
      refine lv_iinc (v := nI (k + 1)) hx hb d_VF_runOnAllNodes_47 hl (k := 0) rfl (nI_1 k) (by decide) rfl (fun ls hl => ?_)
      have hl : lv_has ls 3 [(2, .int (nI (k + 1))), (0, .ref (qa_a y 0 0)), (1, .int (nI t))] := hl
      refine lv_goto hx hb d_VF_runOnAllNodes_50 rfl ?_
      refine ih (k + 1) _ H locs ls (by omega) hC ⟨fun a h1 h2 h3 => ?_, lt_s (fun i hi => ?_) ?_⟩ (lv_sub hl [0, 1, 2] rfl)
      · rw [qa_up_kk h3, hp2.2 a h1 h2]; exact hI.1 a h1 h2 h3
      · rw [qa_up_f (by omega), hp2.2 20 (by decide) (by decide)]; exact hI.2 i hi
      · rw [qa_up_s, hp2.1, hI.1 14 (by decide) (by decide) (by decide), hI.1 15 (by decide) (by decide) (by decide), hI.1 5 (by decide) (by decide) (by decide), hI.1 7 (by decide) (by decide) (by decide)]; exact (hrs k).symm
  refine lv_iconst (v := 0) hx hb d_VF_runOnAllNodes_0 (by decide) ?_
  refine lv_istore_n hx hb d_VF_runOnAllNodes_1 rfl hl (by decide) rfl (fun ls hl => ?_)
  have hl : lv_has ls 3 [(2, .int 0), (0, .ref (qa_a y 0 0)), (1, .int (nI t))] := hl
  exact loop (qa_n y) 0 v _ _ ls (by omega) hC ⟨fun _ _ _ _ => rfl, lt_0⟩ (lv_sub hl [0, 1, 2] rfl)
