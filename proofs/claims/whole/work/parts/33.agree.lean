set_option maxHeartbeats 4000000 in
set_option maxRecDepth 100000 in
theorem c_VF_agreeOnSensors (l : Launch) (y : qa_L) (v : qa_M) (R : Nat) (bn : Nat → Nat) (hR : v 8 0 7 = nI R) (hRm : R ≤ qa_m y) (hbn : ∀ i, i < qa_n y → qm_bear (qa_m y) (v 2 i 11) = nI (bn i) ∧ bn i ≤ R) : qa_Mv l y_VF_agreeOnSensors b_VF_agreeOnSensors 3 7 [.ref (qa_a y 0 0)] y v (fun u => (∀ a b f, a ≠ 8 → a ≠ 9 → a ≠ 11 → ¬ (a = 5 ∧ b < qa_n y ∧ f < qa_n y) → ¬ (a = 2 ∧ b < qa_n y ∧ f = 13) → u a b f = v a b f) ∧ u 8 0 6 = v 8 0 6 ∧ u 8 0 7 = v 8 0 7 ∧ (∀ i, i < qa_n y → ∀ c, c < qa_n y → u 5 i c = qm_ac (qa_n y) v i c (v 2 c 8) (bn i)) ∧ ∀ c, c < qa_n y → u 2 c 13 = 0) := by
  refine qa_ofMv (plainFor_of_name (by decide)) (Nat.le_of_ble_eq_true rfl) ?_
  intro p e s m below meth c ls E hr hlocks hC hl
  have E : qa_E p m c b_VF_agreeOnSensors 3 s _ "VotedFrames" y := E
  have F := E.1
  have hx := F.1
  have hb := F.2.1
  have hown : s.vm.findClass "VotedFrames" = some m.cls := F.2.2.2.1
  have hts := F.2.2.2.2
  have hn4 : 4 ≤ qa_n y := E.2.1.2.2.1
  have hn7 : qa_n y ≤ 7 := E.2.1.2.2.2.1
  have hl : lv_has ls 3 [(0, .ref (qa_a y 0 0))] := hl
  have hm2 : qa_m y ≤ 2 := by have := E.2.1.2.2.2.2.1; omega
  have loop : ∀ (d s0 : Nat) (u : qa_M) (H : Heap) (locs : List Loc) (ls : Array Slot), s0 + d = qa_n y → qa_C y u s H locs → ((∀ a b f, a ≠ 8 → a ≠ 9 → a ≠ 11 → ¬ (a = 5 ∧ b < qa_n y ∧ f < s0) → ¬ (a = 2 ∧ b < s0 ∧ f = 13) → u a b f = v a b f) ∧ u 8 0 6 = v 8 0 6 ∧ u 8 0 7 = v 8 0 7 ∧ (∀ i, i < qa_n y → ∀ c, c < s0 → u 5 i c = qm_ac (qa_n y) v i c (v 2 c 8) (bn i)) ∧ ∀ c, c < s0 → u 2 c 13 = 0) → lv_has ls 3 [(1, .int (nI s0)), (0, .ref (qa_a y 0 0))] → W p l e (qa_R 7) s m [.ref (qa_a y 0 0)].toArray below meth c H locs 0 0 (MQ below (va_Qv (fun u => (∀ a b f, a ≠ 8 → a ≠ 9 → a ≠ 11 → ¬ (a = 5 ∧ b < qa_n y ∧ f < qa_n y) → ¬ (a = 2 ∧ b < qa_n y ∧ f = 13) → u a b f = v a b f) ∧ u 8 0 6 = v 8 0 6 ∧ u 8 0 7 = v 8 0 7 ∧ (∀ i, i < qa_n y → ∀ c, c < qa_n y → u 5 i c = qm_ac (qa_n y) v i c (v 2 c 8) (bn i)) ∧ ∀ c, c < qa_n y → u 2 c 13 = 0) (fun u t => qa_W y u t) (qa_A y)) [.ref (qa_a y 0 0)].toArray s 0 0 (qa_A y)) (F0 m 2 ls []) := by
    intro d
    induction d with
    | zero =>
      intro s0 u H locs ls hkd hC hI hl
      obtain rfl : qa_n y = s0 := by omega
      refine lv_iload_n hx hb d_VF_agreeOnSensors_2 rfl (lv_at hl 0 rfl) ?_
      refine lv_aload_n hx hb d_VF_agreeOnSensors_3 rfl (lv_at hl 1 rfl) ?_
      refine qa_get (k := 0) (i := 0) (f := 0) (val := .int (nI (qa_n y))) E hC Nat.one_pos rfl rfl (by decide) f_VF_13 rfl rfl d_VF_agreeOnSensors_4 ?_
      refine lv_icmp_ge hx hb d_VF_agreeOnSensors_7 rfl (fun _ => ?_) (fun h9 => absurd (nI_le (Nat.le_refl _) (by omega)) h9)
      exact qa_mvret E hC hr hlocks hI d_VF_agreeOnSensors_78
    | succ d ih =>
      intro s0 u H locs ls hkd hC hI hl
      have hs0 : s0 < qa_n y := by omega
      refine lv_iload_n hx hb d_VF_agreeOnSensors_2 rfl (lv_at hl 0 rfl) ?_
      refine lv_aload_n hx hb d_VF_agreeOnSensors_3 rfl (lv_at hl 1 rfl) ?_
      refine qa_get (k := 0) (i := 0) (f := 0) (val := .int (nI (qa_n y))) E hC Nat.one_pos rfl rfl (by decide) f_VF_13 rfl rfl d_VF_agreeOnSensors_4 ?_
      refine lv_icmp_ge hx hb d_VF_agreeOnSensors_7 rfl (fun h9 => absurd h9 (nI_ge hs0 (by omega))) (fun _ => ?_)
      refine lv_aload_n hx hb d_VF_agreeOnSensors_10 rfl (lv_at hl 1 rfl) ?_
      refine qa_get (k := 0) (i := 0) (f := 4) (val := .ref (qa_a y 8 0)) E hC Nat.one_pos rfl rfl (by decide) f_VF_40 rfl rfl d_VF_agreeOnSensors_11 ?_
      refine lv_iload_n hx hb d_VF_agreeOnSensors_14 rfl (lv_at hl 0 rfl) ?_
      refine lv_aload_n hx hb d_VF_agreeOnSensors_15 rfl (lv_at hl 1 rfl) ?_
      refine qa_get (k := 0) (i := 0) (f := 3) (val := .ref (qa_a y 1 0)) E hC Nat.one_pos rfl rfl (by decide) f_VF_31 rfl rfl d_VF_agreeOnSensors_16 ?_
      refine lv_iload_n hx hb d_VF_agreeOnSensors_19 rfl (lv_at hl 0 rfl) ?_
      refine qa_ald (k := 1) (i := 0) (j := s0) E hC Nat.one_pos rfl rfl rfl rfl rfl hs0 d_VF_agreeOnSensors_20 ?_
      refine qa_get (k := 2) (i := s0) (f := 8) (val := .int (u 2 s0 8)) E hC hs0 rfl rfl (by decide) f_VF_94 rfl rfl d_VF_agreeOnSensors_21 ?_
      refine qa_mVv (k := 8) (i := 0) (As := [.int (nI s0), .int (u 2 s0 8)]) E hC (c_RL_spreadOut l y u s0 (u 2 s0 8) R hs0 (by rw [hI.2.2.1]; exact hR) hRm) Nat.one_pos rfl rfl k_VF_201 (qa_fitR (by decide) (by decide)) rfl hl.1 rfl (Nat.le_of_ble_eq_true rfl) d_VF_agreeOnSensors_24 (fun u1 H locs hp1 hC => ?_)
      refine lv_iconst (v := 0) hx hb d_VF_agreeOnSensors_27 (by decide) ?_
      refine lv_istore_n hx hb d_VF_agreeOnSensors_28 rfl hl (by decide) rfl (fun ls hl => ?_)
      have hl : lv_has ls 3 [(2, .int 0), (1, .int (nI s0)), (0, .ref (qa_a y 0 0))] := hl
      have hg : qm_gt u = qm_gt v := qm_gt_m (fun i => hI.1 2 i 9 (by decide) (by decide) (by decide) (by omega) (by omega)) (fun i => hI.1 2 i 10 (by decide) (by decide) (by decide) (by omega) (by omega)) (fun i => hI.1 2 i 12 (by decide) (by decide) (by decide) (by omega) (by omega)) hI.2.1
      have hval : u 2 s0 8 = v 2 s0 8 := hI.1 2 s0 8 (by decide) (by decide) (by decide) (by omega) (by omega)
      rw [hg, hval] at hp1
      have q1 : ∀ a b f, a ≠ 8 → a ≠ 9 → a ≠ 11 → ¬ (a = 5 ∧ b < qa_n y ∧ f < s0) → ¬ (a = 2 ∧ b < s0 ∧ f = 13) → u1 a b f = v a b f := fun a b f h8 h9 h11 h5 h2 => by rw [hp1.1 a h8 h9]; exact hI.1 a b f h8 h9 h11 h5 h2
      have q6 : u1 8 0 6 = v 8 0 6 := hp1.2.2.2.1.trans hI.2.1
      have q7 : u1 8 0 7 = v 8 0 7 := hp1.2.2.2.2.1.trans hI.2.2.1
      have qK : ∀ i, i < qa_n y → ∀ c, c < s0 → u1 5 i c = qm_ac (qa_n y) v i c (v 2 c 8) (bn i) := fun i hi c hc => by rw [hp1.1 5 (by decide) (by decide)]; exact hI.2.2.2.1 i hi c hc
      have qZ : ∀ c, c < s0 → u1 2 c 13 = 0 := fun c hc => by rw [hp1.1 2 (by decide) (by decide)]; exact hI.2.2.2.2 c hc
      have q4 : u1 8 0 4 = nI s0 := hp1.2.1
      have q5 := hp1.2.2.1
      have qS := hp1.2.2.2.2.2
      have loop2 : ∀ (d j : Nat) (u : qa_M) (H : Heap) (locs : List Loc) (ls : Array Slot), j + d = qa_n y → qa_C y u s H locs → ((∀ a b f, a ≠ 11 → ¬ (a = 5 ∧ b < j ∧ f = s0) → u a b f = u1 a b f) ∧ ∀ i, i < j → u 5 i s0 = qm_ac (qa_n y) v i s0 (v 2 s0 8) (bn i)) → lv_has ls 3 [(2, .int (nI j)), (1, .int (nI s0)), (0, .ref (qa_a y 0 0))] → W p l e (qa_R 7) s m [.ref (qa_a y 0 0)].toArray below meth c H locs 0 0 (MQ below (va_Qv (fun u => (∀ a b f, a ≠ 8 → a ≠ 9 → a ≠ 11 → ¬ (a = 5 ∧ b < qa_n y ∧ f < qa_n y) → ¬ (a = 2 ∧ b < qa_n y ∧ f = 13) → u a b f = v a b f) ∧ u 8 0 6 = v 8 0 6 ∧ u 8 0 7 = v 8 0 7 ∧ (∀ i, i < qa_n y → ∀ c, c < qa_n y → u 5 i c = qm_ac (qa_n y) v i c (v 2 c 8) (bn i)) ∧ ∀ c, c < qa_n y → u 2 c 13 = 0) (fun u t => qa_W y u t) (qa_A y)) [.ref (qa_a y 0 0)].toArray s 0 0 (qa_A y)) (F0 m 29 ls []) := by
        intro d
        induction d with
        | zero =>
          intro j u H locs ls hkd hC hI2 hl
          obtain rfl : qa_n y = j := by omega
          refine lv_iload_n hx hb d_VF_agreeOnSensors_29 rfl (lv_at hl 0 rfl) ?_
          refine lv_aload_n hx hb d_VF_agreeOnSensors_30 rfl (lv_at hl 2 rfl) ?_
          refine qa_get (k := 0) (i := 0) (f := 0) (val := .int (nI (qa_n y))) E hC Nat.one_pos rfl rfl (by decide) f_VF_13 rfl rfl d_VF_agreeOnSensors_31 ?_
          refine lv_icmp_ge hx hb d_VF_agreeOnSensors_34 rfl (fun _ => ?_) (fun h9 => absurd (nI_le (Nat.le_refl _) (by omega)) h9)
          refine lv_aload_n hx hb d_VF_agreeOnSensors_62 rfl (lv_at hl 2 rfl) ?_
          refine qa_get (k := 0) (i := 0) (f := 3) (val := .ref (qa_a y 1 0)) E hC Nat.one_pos rfl rfl (by decide) f_VF_31 rfl rfl d_VF_agreeOnSensors_63 ?_
          refine lv_iload_n hx hb d_VF_agreeOnSensors_66 rfl (lv_at hl 1 rfl) ?_
          refine qa_ald (k := 1) (i := 0) (j := s0) E hC Nat.one_pos rfl rfl rfl rfl rfl hs0 d_VF_agreeOnSensors_67 ?_
          refine lv_iconst (v := 0) hx hb d_VF_agreeOnSensors_68 (by decide) ?_
          refine qa_put (k := 2) (i := s0) (f := 13) E hC hs0 rfl rfl (by decide) f_VF_149 rfl rfl rfl rfl d_VF_agreeOnSensors_69 (fun H locs hC => ?_)
          refine lv_iinc (v := nI (s0 + 1)) hx hb d_VF_agreeOnSensors_72 hl (k := 1) rfl (nI_1 s0) (by decide) rfl (fun ls hl => ?_)
          have hl : lv_has ls 3 [(1, .int (nI (s0 + 1))), (2, .int (nI (qa_n y))), (0, .ref (qa_a y 0 0))] := hl
          refine lv_goto hx hb d_VF_agreeOnSensors_75 rfl ?_
          refine ih (s0 + 1) _ H locs ls (by omega) hC ⟨fun a b f h8 h9 h11 h5 h2 => ?_, ?_, ?_, fun i hi => lt_s (fun c hc => ?_) ?_, lt_s (fun c hc => ?_) qa_up_s⟩ (lv_sub hl [0, 2] rfl)
          · rw [show qa_up u 2 s0 13 0 a b f = u a b f by simp only [qa_up]; rw [if_neg]; exact fun z => h2 ⟨z.1, by omega, z.2.2⟩, hI2.1 a b f h11 (fun z => h5 ⟨z.1, z.2.1, by omega⟩)]; exact q1 a b f h8 h9 h11 (fun z => h5 ⟨z.1, z.2.1, by omega⟩) (fun z => h2 ⟨z.1, by omega, z.2.2⟩)
          · rw [qa_up_k (by decide), hI2.1 8 0 6 (by decide) (by omega)]; exact q6
          · rw [qa_up_k (by decide), hI2.1 8 0 7 (by decide) (by omega)]; exact q7
          · rw [qa_up_k (by decide), hI2.1 5 i c (by decide) (by omega)]; exact qK i hi c hc
          · rw [qa_up_k (by decide)]; exact hI2.2 i hi
          · rw [qa_up_i (by omega), hI2.1 2 c 13 (by decide) (by omega)]; exact qZ c hc
        | succ d ih2 =>
          intro j u H locs ls hkd hC hI2 hl
          have hj : j < qa_n y := by omega
          refine lv_iload_n hx hb d_VF_agreeOnSensors_29 rfl (lv_at hl 0 rfl) ?_
          refine lv_aload_n hx hb d_VF_agreeOnSensors_30 rfl (lv_at hl 2 rfl) ?_
          refine qa_get (k := 0) (i := 0) (f := 0) (val := .int (nI (qa_n y))) E hC Nat.one_pos rfl rfl (by decide) f_VF_13 rfl rfl d_VF_agreeOnSensors_31 ?_
          refine lv_icmp_ge hx hb d_VF_agreeOnSensors_34 rfl (fun h9 => absurd h9 (nI_ge hj (by omega))) (fun _ => ?_)
          refine lv_aload_n hx hb d_VF_agreeOnSensors_37 rfl (lv_at hl 2 rfl) ?_
          refine qa_get (k := 0) (i := 0) (f := 3) (val := .ref (qa_a y 1 0)) E hC Nat.one_pos rfl rfl (by decide) f_VF_31 rfl rfl d_VF_agreeOnSensors_38 ?_
          refine lv_iload_n hx hb d_VF_agreeOnSensors_41 rfl (lv_at hl 0 rfl) ?_
          refine qa_ald (k := 1) (i := 0) (j := j) E hC Nat.one_pos rfl rfl rfl rfl rfl hj d_VF_agreeOnSensors_42 ?_
          refine qa_get (k := 2) (i := j) (f := 3) (val := .ref (qa_a y 5 j)) E hC hj rfl rfl (by decide) f_VF_133 rfl rfl d_VF_agreeOnSensors_43 ?_
          refine lv_iload_n hx hb d_VF_agreeOnSensors_46 rfl (lv_at hl 1 rfl) ?_
          refine lv_aload_n hx hb d_VF_agreeOnSensors_47 rfl (lv_at hl 2 rfl) ?_
          refine qa_get (k := 0) (i := 0) (f := 4) (val := .ref (qa_a y 8 0)) E hC Nat.one_pos rfl rfl (by decide) f_VF_40 rfl rfl d_VF_agreeOnSensors_48 ?_
          refine lv_iload_n hx hb d_VF_agreeOnSensors_51 rfl (lv_at hl 0 rfl) ?_
          refine qa_mV (k := 8) (i := 0) (As := [.int (nI j)]) E hC (c_RL_agreedBy l y u j s0 (bn j) hj hs0 (by rw [hI2.1 8 0 4 (by decide) (by omega)]; exact q4) (by rw [hI2.1 2 j 11 (by decide) (by omega), q1 2 j 11 (by decide) (by decide) (by decide) (by omega) (by omega)]; exact (hbn j hj).1) (by have := (hbn j hj).2; omega)) Nat.one_pos rfl rfl k_VF_204 (qa_fitR (by decide) (by decide)) rfl hl.1 rfl (Nat.le_of_ble_eq_true rfl) d_VF_agreeOnSensors_52 (fun r2 u2 H locs hp2 hC => ?_)
          have e5 : r2 = qm_ac (qa_n y) v j s0 (v 2 s0 8) (bn j) := by
            rw [hp2.1]
            unfold qm_ac
            rw [hI2.1 8 0 5 (by decide) (by omega), q5, hI2.1 2 j 11 (by decide) (by omega), q1 2 j 11 (by decide) (by decide) (by decide) (by omega) (by omega), show u 9 0 = u1 9 0 from funext (fun f => hI2.1 9 0 f (by decide) (by omega))]
            by_cases c1 : j = s0
            · rw [if_pos c1, if_pos c1]
            · rw [if_neg c1, if_neg c1]
              by_cases c2 : qm_in (v 2 j 11) (nI s0) = true
              · rw [if_pos c2, if_pos c2]
                exact qm_mkL_ag hn7 hs0 hj c1 (hbn j hj).2 (by omega) (by have := (hbn j hj).2; omega) qS
              · rw [if_neg c2, if_neg c2]
          refine qa_ist (k := 5) (i := j) (j := s0) E hC hj rfl rfl rfl hs0 d_VF_agreeOnSensors_55 (fun H locs hC => ?_)
          refine lv_iinc (v := nI (j + 1)) hx hb d_VF_agreeOnSensors_56 hl (k := 0) rfl (nI_1 j) (by decide) rfl (fun ls hl => ?_)
          have hl : lv_has ls 3 [(2, .int (nI (j + 1))), (1, .int (nI s0)), (0, .ref (qa_a y 0 0))] := hl
          refine lv_goto hx hb d_VF_agreeOnSensors_59 rfl ?_
          refine ih2 (j + 1) _ H locs ls (by omega) hC ⟨fun a b f h11 hK => ?_, lt_s (fun i hi => ?_) ?_⟩ (lv_sub hl [0, 1, 2] rfl)
          · rw [show qa_up u2 5 j s0 _ a b f = u2 a b f by simp only [qa_up]; rw [if_neg]; exact fun z => hK ⟨z.1, by omega, z.2.2⟩, hp2.2 a h11]; exact hI2.1 a b f h11 (fun z => hK ⟨z.1, by omega, z.2.2⟩)
          · rw [qa_up_i (by omega), hp2.2 5 (by decide)]; exact hI2.2 i hi
          · rw [qa_up_s, e5]
      exact loop2 (qa_n y) 0 u1 H locs ls (by omega) hC ⟨fun _ _ _ _ _ => rfl, lt_0⟩ (lv_sub hl [0, 1, 2] rfl)
  refine lv_iconst (v := 0) hx hb d_VF_agreeOnSensors_0 (by decide) ?_
  refine lv_istore_n hx hb d_VF_agreeOnSensors_1 rfl hl (by decide) rfl (fun ls hl => ?_)
  have hl : lv_has ls 3 [(1, .int 0), (0, .ref (qa_a y 0 0))] := hl
  exact loop (qa_n y) 0 v _ _ ls (by omega) hC ⟨fun _ _ _ _ _ _ _ _ => rfl, rfl, rfl, fun i hi c hc => absurd hc (by omega), fun c hc => absurd hc (by omega)⟩ (lv_sub hl [0, 1] rfl)

set_option maxHeartbeats 4000000 in
set_option maxRecDepth 100000 in
theorem c_VF_agreeOnAccused (l : Launch) (y : qa_L) (v : qa_M) (R : Nat) (bn : Nat → Nat) (hR : v 8 0 7 = nI R) (hRm : R ≤ qa_m y) (hbn : ∀ i, i < qa_n y → qm_bear (qa_m y) (v 2 i 11) = nI (bn i) ∧ bn i ≤ R) : qa_Mv l y_VF_agreeOnAccused b_VF_agreeOnAccused 4 7 [.ref (qa_a y 0 0)] y v (fun u => (∀ a b f, a ≠ 8 → a ≠ 9 → a ≠ 11 → ¬ (a = 6 ∧ b < qa_n y ∧ f < qa_n y) → u a b f = v a b f) ∧ u 8 0 6 = v 8 0 6 ∧ u 8 0 7 = v 8 0 7 ∧ (∀ i, i < qa_n y → ∀ c, c < qa_n y → u 6 i c = qm_ac (qa_n y) v i c (v 2 c 13) (bn i) &&& qm_all (qa_n y))) := by
  refine qa_ofMv (plainFor_of_name (by decide)) (Nat.le_of_ble_eq_true rfl) ?_
  intro p e s m below meth c ls E hr hlocks hC hl
  have E : qa_E p m c b_VF_agreeOnAccused 4 s _ "VotedFrames" y := E
  have F := E.1
  have hx := F.1
  have hb := F.2.1
  have hown : s.vm.findClass "VotedFrames" = some m.cls := F.2.2.2.1
  have hts := F.2.2.2.2
  have hn4 : 4 ≤ qa_n y := E.2.1.2.2.1
  have hn7 : qa_n y ≤ 7 := E.2.1.2.2.2.1
  have hl : lv_has ls 4 [(0, .ref (qa_a y 0 0))] := hl
  have hm2 : qa_m y ≤ 2 := by have := E.2.1.2.2.2.2.1; omega
  have loop : ∀ (d s0 : Nat) (u : qa_M) (H : Heap) (locs : List Loc) (ls : Array Slot), s0 + d = qa_n y → qa_C y u s H locs → ((∀ a b f, a ≠ 8 → a ≠ 9 → a ≠ 11 → ¬ (a = 6 ∧ b < qa_n y ∧ f < s0) → u a b f = v a b f) ∧ u 8 0 6 = v 8 0 6 ∧ u 8 0 7 = v 8 0 7 ∧ (∀ i, i < qa_n y → ∀ c, c < s0 → u 6 i c = qm_ac (qa_n y) v i c (v 2 c 13) (bn i) &&& qm_all (qa_n y))) → lv_has ls 4 [(2, .int (nI s0)), (1, .int (qm_all (qa_n y))), (0, .ref (qa_a y 0 0))] → W p l e (qa_R 7) s m [.ref (qa_a y 0 0)].toArray below meth c H locs 0 0 (MQ below (va_Qv (fun u => (∀ a b f, a ≠ 8 → a ≠ 9 → a ≠ 11 → ¬ (a = 6 ∧ b < qa_n y ∧ f < qa_n y) → u a b f = v a b f) ∧ u 8 0 6 = v 8 0 6 ∧ u 8 0 7 = v 8 0 7 ∧ (∀ i, i < qa_n y → ∀ c, c < qa_n y → u 6 i c = qm_ac (qa_n y) v i c (v 2 c 13) (bn i) &&& qm_all (qa_n y))) (fun u t => qa_W y u t) (qa_A y)) [.ref (qa_a y 0 0)].toArray s 0 0 (qa_A y)) (F0 m 11 ls []) := by
    intro d
    induction d with
    | zero =>
      intro s0 u H locs ls hkd hC hI hl
      obtain rfl : qa_n y = s0 := by omega
      refine lv_iload_n hx hb d_VF_agreeOnAccused_11 rfl (lv_at hl 0 rfl) ?_
      refine lv_aload_n hx hb d_VF_agreeOnAccused_12 rfl (lv_at hl 2 rfl) ?_
      refine qa_get (k := 0) (i := 0) (f := 0) (val := .int (nI (qa_n y))) E hC Nat.one_pos rfl rfl (by decide) f_VF_13 rfl rfl d_VF_agreeOnAccused_13 ?_
      refine lv_icmp_ge hx hb d_VF_agreeOnAccused_16 rfl (fun _ => ?_) (fun h9 => absurd (nI_le (Nat.le_refl _) (by omega)) h9)
      exact qa_mvret E hC hr hlocks hI d_VF_agreeOnAccused_79
    | succ d ih =>
      intro s0 u H locs ls hkd hC hI hl
      have hs0 : s0 < qa_n y := by omega
      refine lv_iload_n hx hb d_VF_agreeOnAccused_11 rfl (lv_at hl 0 rfl) ?_
      refine lv_aload_n hx hb d_VF_agreeOnAccused_12 rfl (lv_at hl 2 rfl) ?_
      refine qa_get (k := 0) (i := 0) (f := 0) (val := .int (nI (qa_n y))) E hC Nat.one_pos rfl rfl (by decide) f_VF_13 rfl rfl d_VF_agreeOnAccused_13 ?_
      refine lv_icmp_ge hx hb d_VF_agreeOnAccused_16 rfl (fun h9 => absurd h9 (nI_ge hs0 (by omega))) (fun _ => ?_)
      refine lv_aload_n hx hb d_VF_agreeOnAccused_19 rfl (lv_at hl 2 rfl) ?_
      refine qa_get (k := 0) (i := 0) (f := 4) (val := .ref (qa_a y 8 0)) E hC Nat.one_pos rfl rfl (by decide) f_VF_40 rfl rfl d_VF_agreeOnAccused_20 ?_
      refine lv_iload_n hx hb d_VF_agreeOnAccused_23 rfl (lv_at hl 0 rfl) ?_
      refine lv_aload_n hx hb d_VF_agreeOnAccused_24 rfl (lv_at hl 2 rfl) ?_
      refine qa_get (k := 0) (i := 0) (f := 3) (val := .ref (qa_a y 1 0)) E hC Nat.one_pos rfl rfl (by decide) f_VF_31 rfl rfl d_VF_agreeOnAccused_25 ?_
      refine lv_iload_n hx hb d_VF_agreeOnAccused_28 rfl (lv_at hl 0 rfl) ?_
      refine qa_ald (k := 1) (i := 0) (j := s0) E hC Nat.one_pos rfl rfl rfl rfl rfl hs0 d_VF_agreeOnAccused_29 ?_
      refine qa_get (k := 2) (i := s0) (f := 13) (val := .int (u 2 s0 13)) E hC hs0 rfl rfl (by decide) f_VF_149 rfl rfl d_VF_agreeOnAccused_30 ?_
      refine qa_mVv (k := 8) (i := 0) (As := [.int (nI s0), .int (u 2 s0 13)]) E hC (c_RL_spreadOut l y u s0 (u 2 s0 13) R hs0 (by rw [hI.2.2.1]; exact hR) hRm) Nat.one_pos rfl rfl k_VF_201 (qa_fitR (by decide) (by decide)) rfl hl.1 rfl (Nat.le_of_ble_eq_true rfl) d_VF_agreeOnAccused_33 (fun u1 H locs hp1 hC => ?_)
      refine lv_iconst (v := 0) hx hb d_VF_agreeOnAccused_36 (by decide) ?_
      refine lv_istore_n hx hb d_VF_agreeOnAccused_37 rfl hl (by decide) rfl (fun ls hl => ?_)
      have hl : lv_has ls 4 [(3, .int 0), (2, .int (nI s0)), (1, .int (qm_all (qa_n y))), (0, .ref (qa_a y 0 0))] := hl
      have hg : qm_gt u = qm_gt v := qm_gt_m (fun i => hI.1 2 i 9 (by decide) (by decide) (by decide) (by omega)) (fun i => hI.1 2 i 10 (by decide) (by decide) (by decide) (by omega)) (fun i => hI.1 2 i 12 (by decide) (by decide) (by decide) (by omega)) hI.2.1
      have hval : u 2 s0 13 = v 2 s0 13 := hI.1 2 s0 13 (by decide) (by decide) (by decide) (by omega)
      rw [hg, hval] at hp1
      have q1 : ∀ a b f, a ≠ 8 → a ≠ 9 → a ≠ 11 → ¬ (a = 6 ∧ b < qa_n y ∧ f < s0) → u1 a b f = v a b f := fun a b f h8 h9 h11 h5 => by rw [hp1.1 a h8 h9]; exact hI.1 a b f h8 h9 h11 h5
      have q6 : u1 8 0 6 = v 8 0 6 := hp1.2.2.2.1.trans hI.2.1
      have q7 : u1 8 0 7 = v 8 0 7 := hp1.2.2.2.2.1.trans hI.2.2.1
      have qK : ∀ i, i < qa_n y → ∀ c, c < s0 → u1 6 i c = qm_ac (qa_n y) v i c (v 2 c 13) (bn i) &&& qm_all (qa_n y) := fun i hi c hc => by rw [hp1.1 6 (by decide) (by decide)]; exact hI.2.2.2 i hi c hc
      have q4 : u1 8 0 4 = nI s0 := hp1.2.1
      have q5 := hp1.2.2.1
      have qS := hp1.2.2.2.2.2
      have loop2 : ∀ (d j : Nat) (u : qa_M) (H : Heap) (locs : List Loc) (ls : Array Slot), j + d = qa_n y → qa_C y u s H locs → ((∀ a b f, a ≠ 11 → ¬ (a = 6 ∧ b < j ∧ f = s0) → u a b f = u1 a b f) ∧ ∀ i, i < j → u 6 i s0 = qm_ac (qa_n y) v i s0 (v 2 s0 13) (bn i) &&& qm_all (qa_n y)) → lv_has ls 4 [(3, .int (nI j)), (2, .int (nI s0)), (1, .int (qm_all (qa_n y))), (0, .ref (qa_a y 0 0))] → W p l e (qa_R 7) s m [.ref (qa_a y 0 0)].toArray below meth c H locs 0 0 (MQ below (va_Qv (fun u => (∀ a b f, a ≠ 8 → a ≠ 9 → a ≠ 11 → ¬ (a = 6 ∧ b < qa_n y ∧ f < qa_n y) → u a b f = v a b f) ∧ u 8 0 6 = v 8 0 6 ∧ u 8 0 7 = v 8 0 7 ∧ (∀ i, i < qa_n y → ∀ c, c < qa_n y → u 6 i c = qm_ac (qa_n y) v i c (v 2 c 13) (bn i) &&& qm_all (qa_n y))) (fun u t => qa_W y u t) (qa_A y)) [.ref (qa_a y 0 0)].toArray s 0 0 (qa_A y)) (F0 m 38 ls []) := by
        intro d
        induction d with
        | zero =>
          intro j u H locs ls hkd hC hI2 hl
          obtain rfl : qa_n y = j := by omega
          refine lv_iload_n hx hb d_VF_agreeOnAccused_38 rfl (lv_at hl 0 rfl) ?_
          refine lv_aload_n hx hb d_VF_agreeOnAccused_39 rfl (lv_at hl 3 rfl) ?_
          refine qa_get (k := 0) (i := 0) (f := 0) (val := .int (nI (qa_n y))) E hC Nat.one_pos rfl rfl (by decide) f_VF_13 rfl rfl d_VF_agreeOnAccused_40 ?_
          refine lv_icmp_ge hx hb d_VF_agreeOnAccused_43 rfl (fun _ => ?_) (fun h9 => absurd (nI_le (Nat.le_refl _) (by omega)) h9)
          refine lv_iinc (v := nI (s0 + 1)) hx hb d_VF_agreeOnAccused_73 hl (k := 1) rfl (nI_1 s0) (by decide) rfl (fun ls hl => ?_)
          have hl : lv_has ls 4 [(2, .int (nI (s0 + 1))), (3, .int (nI (qa_n y))), (1, .int (qm_all (qa_n y))), (0, .ref (qa_a y 0 0))] := hl
          refine lv_goto hx hb d_VF_agreeOnAccused_76 rfl ?_
          refine ih (s0 + 1) _ H locs ls (by omega) hC ⟨fun a b f h8 h9 h11 h5 => ?_, ?_, ?_, fun i hi => lt_s (fun c hc => ?_) ?_⟩ (lv_sub hl [0, 2, 3] rfl)
          · rw [hI2.1 a b f h11 (fun z => h5 ⟨z.1, z.2.1, by omega⟩)]; exact q1 a b f h8 h9 h11 (fun z => h5 ⟨z.1, z.2.1, by omega⟩)
          · rw [hI2.1 8 0 6 (by decide) (by omega)]; exact q6
          · rw [hI2.1 8 0 7 (by decide) (by omega)]; exact q7
          · rw [hI2.1 6 i c (by decide) (by omega)]; exact qK i hi c hc
          · exact hI2.2 i hi
        | succ d ih2 =>
          intro j u H locs ls hkd hC hI2 hl
          have hj : j < qa_n y := by omega
          refine lv_iload_n hx hb d_VF_agreeOnAccused_38 rfl (lv_at hl 0 rfl) ?_
          refine lv_aload_n hx hb d_VF_agreeOnAccused_39 rfl (lv_at hl 3 rfl) ?_
          refine qa_get (k := 0) (i := 0) (f := 0) (val := .int (nI (qa_n y))) E hC Nat.one_pos rfl rfl (by decide) f_VF_13 rfl rfl d_VF_agreeOnAccused_40 ?_
          refine lv_icmp_ge hx hb d_VF_agreeOnAccused_43 rfl (fun h9 => absurd h9 (nI_ge hj (by omega))) (fun _ => ?_)
          refine lv_aload_n hx hb d_VF_agreeOnAccused_46 rfl (lv_at hl 3 rfl) ?_
          refine qa_get (k := 0) (i := 0) (f := 3) (val := .ref (qa_a y 1 0)) E hC Nat.one_pos rfl rfl (by decide) f_VF_31 rfl rfl d_VF_agreeOnAccused_47 ?_
          refine lv_iload_n hx hb d_VF_agreeOnAccused_50 rfl (lv_at hl 0 rfl) ?_
          refine qa_ald (k := 1) (i := 0) (j := j) E hC Nat.one_pos rfl rfl rfl rfl rfl hj d_VF_agreeOnAccused_51 ?_
          refine qa_get (k := 2) (i := j) (f := 4) (val := .ref (qa_a y 6 j)) E hC hj rfl rfl (by decide) f_VF_136 rfl rfl d_VF_agreeOnAccused_52 ?_
          refine lv_iload_n hx hb d_VF_agreeOnAccused_55 rfl (lv_at hl 1 rfl) ?_
          refine lv_aload_n hx hb d_VF_agreeOnAccused_56 rfl (lv_at hl 3 rfl) ?_
          refine qa_get (k := 0) (i := 0) (f := 4) (val := .ref (qa_a y 8 0)) E hC Nat.one_pos rfl rfl (by decide) f_VF_40 rfl rfl d_VF_agreeOnAccused_57 ?_
          refine lv_iload_n hx hb d_VF_agreeOnAccused_60 rfl (lv_at hl 0 rfl) ?_
          refine qa_mV (k := 8) (i := 0) (As := [.int (nI j)]) E hC (c_RL_agreedBy l y u j s0 (bn j) hj hs0 (by rw [hI2.1 8 0 4 (by decide) (by omega)]; exact q4) (by rw [hI2.1 2 j 11 (by decide) (by omega), q1 2 j 11 (by decide) (by decide) (by decide) (by omega)]; exact (hbn j hj).1) (by have := (hbn j hj).2; omega)) Nat.one_pos rfl rfl k_VF_204 (qa_fitR (by decide) (by decide)) rfl hl.1 rfl (Nat.le_of_ble_eq_true rfl) d_VF_agreeOnAccused_61 (fun r2 u2 H locs hp2 hC => ?_)
          have e5 : r2 = qm_ac (qa_n y) v j s0 (v 2 s0 13) (bn j) := by
            rw [hp2.1]
            unfold qm_ac
            rw [hI2.1 8 0 5 (by decide) (by omega), q5, hI2.1 2 j 11 (by decide) (by omega), q1 2 j 11 (by decide) (by decide) (by decide) (by omega), show u 9 0 = u1 9 0 from funext (fun f => hI2.1 9 0 f (by decide) (by omega))]
            by_cases c1 : j = s0
            · rw [if_pos c1, if_pos c1]
            · rw [if_neg c1, if_neg c1]
              by_cases c2 : qm_in (v 2 j 11) (nI s0) = true
              · rw [if_pos c2, if_pos c2]
                exact qm_mkL_ag hn7 hs0 hj c1 (hbn j hj).2 (by omega) (by have := (hbn j hj).2; omega) qS
              · rw [if_neg c2, if_neg c2]
          refine lv_iload_n hx hb d_VF_agreeOnAccused_64 rfl (lv_at hl 2 rfl) ?_
          refine lv_iand hx hb d_VF_agreeOnAccused_65 ?_
          refine qa_ist (k := 6) (i := j) (j := s0) E hC hj rfl rfl rfl hs0 d_VF_agreeOnAccused_66 (fun H locs hC => ?_)
          refine lv_iinc (v := nI (j + 1)) hx hb d_VF_agreeOnAccused_67 hl (k := 0) rfl (nI_1 j) (by decide) rfl (fun ls hl => ?_)
          have hl : lv_has ls 4 [(3, .int (nI (j + 1))), (2, .int (nI s0)), (1, .int (qm_all (qa_n y))), (0, .ref (qa_a y 0 0))] := hl
          refine lv_goto hx hb d_VF_agreeOnAccused_70 rfl ?_
          refine ih2 (j + 1) _ H locs ls (by omega) hC ⟨fun a b f h11 hK => ?_, lt_s (fun i hi => ?_) ?_⟩ (lv_sub hl [0, 1, 2, 3] rfl)
          · rw [show qa_up u2 6 j s0 _ a b f = u2 a b f by simp only [qa_up]; rw [if_neg]; exact fun z => hK ⟨z.1, by omega, z.2.2⟩, hp2.2 a h11]; exact hI2.1 a b f h11 (fun z => hK ⟨z.1, by omega, z.2.2⟩)
          · rw [qa_up_i (by omega), hp2.2 6 (by decide)]; exact hI2.2 i hi
          · rw [qa_up_s, e5]
      exact loop2 (qa_n y) 0 u1 H locs ls (by omega) hC ⟨fun _ _ _ _ _ => rfl, lt_0⟩ (lv_sub hl [0, 1, 2, 3] rfl)
  refine lv_iconst (v := 1) hx hb d_VF_agreeOnAccused_0 (by decide) ?_
  refine lv_aload_n hx hb d_VF_agreeOnAccused_1 rfl (lv_at hl 0 rfl) ?_
  refine qa_get (k := 0) (i := 0) (f := 0) (val := .int (nI (qa_n y))) E hC Nat.one_pos rfl rfl (by decide) f_VF_13 rfl rfl d_VF_agreeOnAccused_2 ?_
  refine lv_ishl hx hb d_VF_agreeOnAccused_5 ?_
  refine lv_iconst (v := 1) hx hb d_VF_agreeOnAccused_6 (by decide) ?_
  refine lv_isub hx hb d_VF_agreeOnAccused_7 ?_
  refine lv_istore_n hx hb d_VF_agreeOnAccused_8 rfl hl (by decide) rfl (fun ls hl => ?_)
  have hl : lv_has ls 4 [(1, .int (((1 : Int32) <<< ((nI (qa_n y)) &&& 31)) - 1)), (0, .ref (qa_a y 0 0))] := hl
  refine lv_iconst (v := 0) hx hb d_VF_agreeOnAccused_9 (by decide) ?_
  refine lv_istore_n hx hb d_VF_agreeOnAccused_10 rfl hl (by decide) rfl (fun ls hl => ?_)
  have hl : lv_has ls 4 [(2, .int 0), (1, .int (((1 : Int32) <<< ((nI (qa_n y)) &&& 31)) - 1)), (0, .ref (qa_a y 0 0))] := hl
  exact loop (qa_n y) 0 v _ _ ls (by omega) hC ⟨fun _ _ _ _ _ _ _ => rfl, rfl, rfl, fun i hi c hc => absurd hc (by omega)⟩ (lv_sub hl [0, 1, 2] rfl)
