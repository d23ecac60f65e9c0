set_option maxHeartbeats 4000000 in
set_option maxRecDepth 100000 in
theorem c_VF_fillBallot (l : Launch) (y : qa_L) (v : qa_M) (i : Nat) (hi : i < qa_n y) (hh : v 2 i 12 = qm_hm y v i (qa_n y)) : qa_Mi l y_VF_fillBallot b_VF_fillBallot 4 (some .int) 1 [.ref (qa_a y 0 0), .ref (qa_a y 2 i)] y v (fun r u => r = nI ((qm_bl y v (v 20 0) i (qa_n y)).length) ∧ qm_hd (u 21 0) (qm_bl y v (v 20 0) i (qa_n y)) ∧ ∀ a, a ≠ 21 → u a = v a) := by
  refine qa_ofMi (plainFor_of_name (by decide)) (Nat.le_of_ble_eq_true rfl) ?_
  intro p e s m below meth c ls E hr hlocks hC hl
  have E : qa_E p m c b_VF_fillBallot 4 s _ "VotedFrames" y := E
  have F := E.1
  have hx := F.1
  have hb := F.2.1
  have hown : s.vm.findClass "VotedFrames" = some m.cls := F.2.2.2.1
  have hts := F.2.2.2.2
  have hn4 : 4 ≤ qa_n y := E.2.1.2.2.1
  have hn7 : qa_n y ≤ 7 := E.2.1.2.2.2.1
  have hl : lv_has ls 4 [(0, .ref (qa_a y 0 0)), (1, .ref (qa_a y 2 i))] := hl
  obtain ⟨G, hG⟩ : ∃ G : Nat → List Int32, G = qm_bl y v (v 20 0) i := ⟨_, rfl⟩
  have gs : ∀ k, qm_he y v i k = true → G (k + 1) = G k ++ [qm_sr v (v 20 0) i k] := fun k h => by rw [hG]; exact qm_ls_t h
  have gn : ∀ k, qm_he y v i k = false → G (k + 1) = G k := fun k h => by rw [hG]; exact qm_ls_f h
  have gl : ∀ k, (G k).length ≤ if i < k then k else k + 1 := fun k => by rw [hG]; exact qm_ls_len qm_he_i k
  have gk1 : ∀ k, k < qa_n y → qm_he y v i k = true → (G k).length < qa_n y := by
    intro k hk h
    have h1 := gl (k + 1)
    rw [gs k h, List.length_append, List.length_cons, List.length_nil] at h1
    split at h1 <;> omega
  have g0 : G 0 = [v 20 0 i] := by rw [hG]; rfl
  have loop : ∀ (d k : Nat) (u : qa_M) (H : Heap) (locs : List Loc) (ls : Array Slot), k + d = qa_n y → qa_C y u s H locs → ((∀ a, a ≠ 21 → u a = v a) ∧ qm_hd (u 21 0) (G k)) → lv_has ls 4 [(3, .int (nI k)), (2, .int (nI ((G k).length))), (0, .ref (qa_a y 0 0)), (1, .ref (qa_a y 2 i))] → W p l e (qa_R 1) s m [.ref (qa_a y 0 0), .ref (qa_a y 2 i)].toArray below meth c H locs 0 0 (MQ below (va_Qi (fun r u => r = nI ((qm_bl y v (v 20 0) i (qa_n y)).length) ∧ qm_hd (u 21 0) (qm_bl y v (v 20 0) i (qa_n y)) ∧ ∀ a, a ≠ 21 → u a = v a) (fun u t => qa_W y u t) (qa_A y)) [.ref (qa_a y 0 0), .ref (qa_a y 2 i)].toArray s 0 0 (qa_A y)) (F0 m 19 ls []) := by
    intro d
    induction d with
    | zero =>
      intro k u H locs ls hkd hC hI hl
      obtain rfl : qa_n y = k := by omega
      refine lv_iload_n hx hb d_VF_fillBallot_19 rfl (lv_at hl 0 rfl) ?_
      refine lv_aload_n hx hb d_VF_fillBallot_20 rfl (lv_at hl 2 rfl) ?_
      refine qa_get (k := 0) (i := 0) (f := 0) (val := .int (nI (qa_n y))) E hC Nat.one_pos rfl rfl (by decide) f_VF_13 rfl rfl d_VF_fillBallot_21 ?_
      refine lv_icmp_ge hx hb d_VF_fillBallot_24 rfl (fun _ => ?_) (fun h9 => absurd (nI_le (Nat.le_refl _) (by omega)) h9)
      refine lv_iload_n hx hb d_VF_fillBallot_76 rfl (lv_at hl 1 rfl) ?_
      exact qa_mret E hC hr hlocks ⟨by rw [hG], by rw [← hG]; exact hI.2, hI.1⟩ d_VF_fillBallot_77
    | succ d ih =>
      intro k u H locs ls hkd hC hI hl
      have hk : k < qa_n y := by omega
      refine lv_iload_n hx hb d_VF_fillBallot_19 rfl (lv_at hl 0 rfl) ?_
      refine lv_aload_n hx hb d_VF_fillBallot_20 rfl (lv_at hl 2 rfl) ?_
      refine qa_get (k := 0) (i := 0) (f := 0) (val := .int (nI (qa_n y))) E hC Nat.one_pos rfl rfl (by decide) f_VF_13 rfl rfl d_VF_fillBallot_21 ?_
      refine lv_icmp_ge hx hb d_VF_fillBallot_24 rfl (fun h9 => absurd h9 (nI_ge hk (by omega))) (fun _ => ?_)
      have hhe : qm_in (u 2 i 12) (nI k) = qm_he y v i k := by rw [hI.1 2 (by decide)]; exact qm_he_in hn7 hh hk
      refine lv_aload_n hx hb d_VF_fillBallot_27 rfl (lv_at hl 3 rfl) ?_
      refine qa_get (k := 2) (i := i) (f := 12) (val := .int (u 2 i 12)) E hC hi rfl rfl (by decide) f_VF_198 rfl rfl d_VF_fillBallot_28 ?_
      refine lv_iload_n hx hb d_VF_fillBallot_31 rfl (lv_at hl 0 rfl) ?_
      refine qa_pT (As := [.int (u 2 i 12), .int (nI k)]) F (c_VF_contains l (u 2 i 12) (nI k)) k_VF_239 (qa_fitR (by decide) (by decide)) rfl hl.1 rfl (Nat.le_of_ble_eq_true rfl) d_VF_fillBallot_32 ?_
      refine lv_if_eq hx hb d_VF_fillBallot_35 rfl (fun h35 => ?_) (fun h35 => ?_)
      · refine lv_iinc (v := nI (k + 1)) hx hb d_VF_fillBallot_70 hl (k := 0) rfl (nI_1 k) (by decide) rfl (fun ls hl => ?_)
        have hl : lv_has ls 4 [(3, .int (nI (k + 1))), (2, .int (nI ((G k).length))), (0, .ref (qa_a y 0 0)), (1, .ref (qa_a y 2 i))] := hl
        refine lv_goto hx hb d_VF_fillBallot_73 rfl ?_
        have e8 := gn k (by rw [← hhe]; exact qb_e0 h35)
        refine ih (k + 1) u H locs ls (by omega) hC ⟨hI.1, by rw [e8]; exact hI.2⟩ ?_
        rw [e8]
        exact lv_sub hl [0, 1, 2, 3] rfl
      · have hkr : qm_he y v i k = true := by rw [← hhe]; exact qb_n0 h35
        have hkl := gk1 k hk hkr
        refine lv_aload_n hx hb d_VF_fillBallot_38 rfl (lv_at hl 2 rfl) ?_
        refine qa_get (k := 0) (i := 0) (f := 10) (val := .ref (qa_a y 21 0)) E hC Nat.one_pos rfl rfl (by decide) f_VF_69 rfl rfl d_VF_fillBallot_39 ?_
        refine lv_iload_n hx hb d_VF_fillBallot_42 rfl (lv_at hl 1 rfl) ?_
        refine lv_aload_n hx hb d_VF_fillBallot_43 rfl (lv_at hl 2 rfl) ?_
        refine qa_get (k := 0) (i := 0) (f := 3) (val := .ref (qa_a y 1 0)) E hC Nat.one_pos rfl rfl (by decide) f_VF_31 rfl rfl d_VF_fillBallot_44 ?_
        refine lv_iload_n hx hb d_VF_fillBallot_47 rfl (lv_at hl 0 rfl) ?_
        refine qa_ald (k := 1) (i := 0) (j := k) E hC Nat.one_pos rfl rfl rfl rfl rfl hk d_VF_fillBallot_48 ?_
        refine lv_aload_n hx hb d_VF_fillBallot_49 rfl (lv_at hl 2 rfl) ?_
        refine qa_get (k := 0) (i := 0) (f := 9) (val := .ref (qa_a y 20 0)) E hC Nat.one_pos rfl rfl (by decide) f_VF_66 rfl rfl d_VF_fillBallot_50 ?_
        refine lv_iload_n hx hb d_VF_fillBallot_53 rfl (lv_at hl 0 rfl) ?_
        refine qa_ild (k := 20) (i := 0) (j := k) E hC Nat.one_pos rfl rfl rfl hk d_VF_fillBallot_54 ?_
        refine lv_aload_n hx hb d_VF_fillBallot_55 rfl (lv_at hl 3 rfl) ?_
        refine qa_get (k := 2) (i := i) (f := 0) (val := .int (nI i)) E hC hi rfl rfl (by decide) f_VF_236 rfl rfl d_VF_fillBallot_56 ?_
        refine lv_aload_n hx hb d_VF_fillBallot_59 rfl (lv_at hl 2 rfl) ?_
        refine qa_get (k := 0) (i := 0) (f := 11) (val := .int (u 0 0 11)) E hC Nat.one_pos rfl rfl (by decide) f_VF_127 rfl rfl d_VF_fillBallot_60 ?_
        refine qa_pV (k := 2) (i := k) (As := [.int (u 20 0 k), .int (nI i), .int (u 0 0 11)]) E hC (c_ND_says l y u k (u 20 0 k) (nI i) (u 0 0 11) hk) hk rfl rfl k_VF_242 (qa_fitR (by decide) (by decide)) rfl hl.1 rfl (Nat.le_of_ble_eq_true rfl) d_VF_fillBallot_63 ?_
        refine qa_ist (k := 21) (i := 0) (j := ((G k).length)) E hC Nat.one_pos rfl rfl rfl hkl d_VF_fillBallot_66 (fun H locs hC => ?_)
        refine lv_iinc (v := nI (((G k).length) + 1)) hx hb d_VF_fillBallot_67 hl (k := 1) rfl (nI_1 ((G k).length)) (by decide) rfl (fun ls hl => ?_)
        have hl : lv_has ls 4 [(2, .int (nI (((G k).length) + 1))), (3, .int (nI k)), (0, .ref (qa_a y 0 0)), (1, .ref (qa_a y 2 i))] := hl
        refine lv_iinc (v := nI (k + 1)) hx hb d_VF_fillBallot_70 hl (k := 1) rfl (nI_1 k) (by decide) rfl (fun ls hl => ?_)
        have hl : lv_has ls 4 [(3, .int (nI (k + 1))), (2, .int (nI (((G k).length) + 1))), (0, .ref (qa_a y 0 0)), (1, .ref (qa_a y 2 i))] := hl
        refine lv_goto hx hb d_VF_fillBallot_73 rfl ?_
        have e8 := gs k hkr
        refine ih (k + 1) _ H locs ls (by omega) hC ⟨fun a h => ?_, ?_⟩ ?_
        · rw [qa_up_kk h]; exact hI.1 a h
        · rw [e8]
          refine qm_hd_push hI.2 ?_ (fun q hq => by rw [qa_up_f (by omega)])
          rw [qa_up_s, hI.1 2 (by decide), hI.1 20 (by decide), hI.1 0 (by decide)]
          rfl
        · rw [e8, show (G k ++ [qm_sr v (v 20 0) i k]).length = (G k).length + 1 by simp]
          exact lv_sub hl [0, 1, 2, 3] rfl
  refine lv_aload_n hx hb d_VF_fillBallot_0 rfl (lv_at hl 0 rfl) ?_
  refine qa_get (k := 0) (i := 0) (f := 10) (val := .ref (qa_a y 21 0)) E hC Nat.one_pos rfl rfl (by decide) f_VF_69 rfl rfl d_VF_fillBallot_1 ?_
  refine lv_iconst (v := 0) hx hb d_VF_fillBallot_4 (by decide) ?_
  refine lv_aload_n hx hb d_VF_fillBallot_5 rfl (lv_at hl 0 rfl) ?_
  refine qa_get (k := 0) (i := 0) (f := 9) (val := .ref (qa_a y 20 0)) E hC Nat.one_pos rfl rfl (by decide) f_VF_66 rfl rfl d_VF_fillBallot_6 ?_
  refine lv_aload_n hx hb d_VF_fillBallot_9 rfl (lv_at hl 1 rfl) ?_
  refine qa_get (k := 2) (i := i) (f := 0) (val := .int (nI i)) E hC hi rfl rfl (by decide) f_VF_236 rfl rfl d_VF_fillBallot_10 ?_
  refine qa_ild (k := 20) (i := 0) (j := i) E hC Nat.one_pos rfl rfl rfl hi d_VF_fillBallot_13 ?_
  refine qa_ist (k := 21) (i := 0) (j := 0) E hC Nat.one_pos rfl rfl rfl (show 0 < qa_n y by omega) d_VF_fillBallot_14 (fun H locs hC => ?_)
  refine lv_iconst (v := 1) hx hb d_VF_fillBallot_15 (by decide) ?_
  refine lv_istore_n hx hb d_VF_fillBallot_16 rfl hl (by decide) rfl (fun ls hl => ?_)
  have hl : lv_has ls 4 [(2, .int 1), (0, .ref (qa_a y 0 0)), (1, .ref (qa_a y 2 i))] := hl
  refine lv_iconst (v := 0) hx hb d_VF_fillBallot_17 (by decide) ?_
  refine lv_istore_n hx hb d_VF_fillBallot_18 rfl hl (by decide) rfl (fun ls hl => ?_)
  have hl : lv_has ls 4 [(3, .int 0), (2, .int 1), (0, .ref (qa_a y 0 0)), (1, .ref (qa_a y 2 i))] := hl
  refine loop (qa_n y) 0 _ H locs ls (by omega) hC ⟨fun a h => qa_up_kk h, ?_⟩ ?_
  · rw [g0]
    intro q hq
    obtain rfl : q = 0 := by simp at hq; exact hq
    rw [qa_up_s]; rfl
  · rw [g0]
    exact lv_sub hl [0, 1, 2, 3] rfl

set_option maxHeartbeats 4000000 in
set_option maxRecDepth 100000 in
theorem c_VF_dissentersFrom (l : Launch) (y : qa_L) (v : qa_M) (i : Nat) (x : Int32) (hi : i < qa_n y) (hh : v 2 i 12 = qm_hm y v i (qa_n y)) : qa_Pu l y_VF_dissentersFrom b_VF_dissentersFrom 5 (some .int) 1 [.ref (qa_a y 0 0), .int x, .ref (qa_a y 2 i)] (qa_W y v) (qm_ds y v (v 20 0) i x (qa_n y)) := by
  refine qa_ofPu (plainFor_of_name (by decide)) (Nat.le_of_ble_eq_true rfl) ?_
  intro p e s m below meth c ls F hr hlocks hW hl
  have E : qa_E p m c b_VF_dissentersFrom 5 s _ "VotedFrames" y := ⟨F, hW.2⟩
  have hC : qa_C y v s s.heap [] := ⟨hW.1, va_S.rf⟩
  have hx := F.1
  have hb := F.2.1
  have hown : s.vm.findClass "VotedFrames" = some m.cls := F.2.2.2.1
  have hts := F.2.2.2.2
  have hn4 : 4 ≤ qa_n y := E.2.1.2.2.1
  have hn7 : qa_n y ≤ 7 := E.2.1.2.2.2.1
  have hl : lv_has ls 5 [(0, .ref (qa_a y 0 0)), (1, .int x), (2, .ref (qa_a y 2 i))] := hl
  have loop : ∀ (d k : Nat) (ls : Array Slot), k + d = qa_n y → lv_has ls 5 [(4, .int (nI k)), (3, .int (qm_ds y v (v 20 0) i x k)), (0, .ref (qa_a y 0 0)), (1, .int x), (2, .ref (qa_a y 2 i))] → W p l e (qa_R 1) s m [.ref (qa_a y 0 0), .int x, .ref (qa_a y 2 i)].toArray below meth c s.heap [] 0 0 (MQ below (QcRead (qm_ds y v (v 20 0) i x (qa_n y))) [.ref (qa_a y 0 0), .int x, .ref (qa_a y 2 i)].toArray s 0 0 (fun _ => False)) (F0 m 17 ls []) := by
    intro d
    induction d with
    | zero =>
      intro k ls hkd hl
      obtain rfl : qa_n y = k := by omega
      refine lv_iload hx hb d_VF_dissentersFrom_17 (lv_at hl 0 rfl) ?_
      refine lv_aload_n hx hb d_VF_dissentersFrom_19 rfl (lv_at hl 2 rfl) ?_
      refine qa_get (k := 0) (i := 0) (f := 0) (val := .int (nI (qa_n y))) E hC Nat.one_pos rfl rfl (by decide) f_VF_13 rfl rfl d_VF_dissentersFrom_20 ?_
      refine lv_icmp_ge hx hb d_VF_dissentersFrom_23 rfl (fun _ => ?_) (fun h9 => absurd (nI_le (Nat.le_refl _) (by omega)) h9)
      refine lv_iload_n hx hb d_VF_dissentersFrom_82 rfl (lv_at hl 1 rfl) ?_
      exact qa_iret hx hb hr hlocks rfl d_VF_dissentersFrom_83
    | succ d ih =>
      intro k ls hkd hl
      have hk : k < qa_n y := by omega
      refine lv_iload hx hb d_VF_dissentersFrom_17 (lv_at hl 0 rfl) ?_
      refine lv_aload_n hx hb d_VF_dissentersFrom_19 rfl (lv_at hl 2 rfl) ?_
      refine qa_get (k := 0) (i := 0) (f := 0) (val := .int (nI (qa_n y))) E hC Nat.one_pos rfl rfl (by decide) f_VF_13 rfl rfl d_VF_dissentersFrom_20 ?_
      refine lv_icmp_ge hx hb d_VF_dissentersFrom_23 rfl (fun h9 => absurd h9 (nI_ge hk (by omega))) (fun _ => ?_)
      refine lv_aload_n hx hb d_VF_dissentersFrom_26 rfl (lv_at hl 4 rfl) ?_
      refine qa_get (k := 2) (i := i) (f := 12) (val := .int (v 2 i 12)) E hC hi rfl rfl (by decide) f_VF_198 rfl rfl d_VF_dissentersFrom_27 ?_
      refine lv_iload hx hb d_VF_dissentersFrom_30 (lv_at hl 0 rfl) ?_
      refine qa_pT (As := [.int (v 2 i 12), .int (nI k)]) F (c_VF_contains l (v 2 i 12) (nI k)) k_VF_239 (qa_fitR (by decide) (by decide)) rfl hl.1 rfl (Nat.le_of_ble_eq_true rfl) d_VF_dissentersFrom_32 ?_
      refine lv_if_eq hx hb d_VF_dissentersFrom_35 rfl (fun h35 => ?_) (fun h35 => ?_)
      · refine lv_iinc (v := nI (k + 1)) hx hb d_VF_dissentersFrom_76 hl (k := 0) rfl (nI_1 k) (by decide) rfl (fun ls hl => ?_)
        have hl : lv_has ls 5 [(4, .int (nI (k + 1))), (3, .int (qm_ds y v (v 20 0) i x k)), (0, .ref (qa_a y 0 0)), (1, .int x), (2, .ref (qa_a y 2 i))] := hl
        refine lv_goto hx hb d_VF_dissentersFrom_79 rfl ?_
        have hhe := qm_he_in (i := i) hn7 hh hk
        have e5 : qm_ds y v (v 20 0) i x (k + 1) = qm_ds y v (v 20 0) i x k := if_neg (fun z => by rw [hhe, z.1] at h35; exact absurd h35 (by decide))
        refine ih (k + 1) ls (by omega) ?_
        rw [e5]
        exact lv_sub hl [0, 1, 2, 3, 4] rfl
      · refine lv_aload_n hx hb d_VF_dissentersFrom_38 rfl (lv_at hl 2 rfl) ?_
        refine qa_get (k := 0) (i := 0) (f := 3) (val := .ref (qa_a y 1 0)) E hC Nat.one_pos rfl rfl (by decide) f_VF_31 rfl rfl d_VF_dissentersFrom_39 ?_
        refine lv_iload hx hb d_VF_dissentersFrom_42 (lv_at hl 0 rfl) ?_
        refine qa_ald (k := 1) (i := 0) (j := k) E hC Nat.one_pos rfl rfl rfl rfl rfl hk d_VF_dissentersFrom_44 ?_
        refine lv_aload_n hx hb d_VF_dissentersFrom_45 rfl (lv_at hl 2 rfl) ?_
        refine qa_get (k := 0) (i := 0) (f := 9) (val := .ref (qa_a y 20 0)) E hC Nat.one_pos rfl rfl (by decide) f_VF_66 rfl rfl d_VF_dissentersFrom_46 ?_
        refine lv_iload hx hb d_VF_dissentersFrom_49 (lv_at hl 0 rfl) ?_
        refine qa_ild (k := 20) (i := 0) (j := k) E hC Nat.one_pos rfl rfl rfl hk d_VF_dissentersFrom_51 ?_
        refine lv_aload_n hx hb d_VF_dissentersFrom_52 rfl (lv_at hl 4 rfl) ?_
        refine qa_get (k := 2) (i := i) (f := 0) (val := .int (nI i)) E hC hi rfl rfl (by decide) f_VF_236 rfl rfl d_VF_dissentersFrom_53 ?_
        refine lv_aload_n hx hb d_VF_dissentersFrom_56 rfl (lv_at hl 2 rfl) ?_
        refine qa_get (k := 0) (i := 0) (f := 11) (val := .int (v 0 0 11)) E hC Nat.one_pos rfl rfl (by decide) f_VF_127 rfl rfl d_VF_dissentersFrom_57 ?_
        refine qa_pV (k := 2) (i := k) (As := [.int (v 20 0 k), .int (nI i), .int (v 0 0 11)]) E hC (c_ND_says l y v k (v 20 0 k) (nI i) (v 0 0 11) hk) hk rfl rfl k_VF_242 (qa_fitR (by decide) (by decide)) rfl hl.1 rfl (Nat.le_of_ble_eq_true rfl) d_VF_dissentersFrom_60 ?_
        refine lv_iload_n hx hb d_VF_dissentersFrom_63 rfl (lv_at hl 3 rfl) ?_
        refine lv_icmp_ne hx hb d_VF_dissentersFrom_64 rfl (fun h64 => ?_) (fun h64 => ?_)
        · refine lv_iinc (v := nI (k + 1)) hx hb d_VF_dissentersFrom_76 hl (k := 0) rfl (nI_1 k) (by decide) rfl (fun ls hl => ?_)
          have hl : lv_has ls 5 [(4, .int (nI (k + 1))), (3, .int (qm_ds y v (v 20 0) i x k)), (0, .ref (qa_a y 0 0)), (1, .int x), (2, .ref (qa_a y 2 i))] := hl
          refine lv_goto hx hb d_VF_dissentersFrom_79 rfl ?_
          have hhe := qm_he_in (i := i) hn7 hh hk
          have e5 : qm_ds y v (v 20 0) i x (k + 1) = qm_ds y v (v 20 0) i x k := if_neg (fun z => h64 z.2)
          refine ih (k + 1) ls (by omega) ?_
          rw [e5]
          exact lv_sub hl [0, 1, 2, 3, 4] rfl
        · refine lv_iload_n hx hb d_VF_dissentersFrom_67 rfl (lv_at hl 1 rfl) ?_
          refine lv_iconst (v := 1) hx hb d_VF_dissentersFrom_68 (by decide) ?_
          refine lv_iload hx hb d_VF_dissentersFrom_69 (lv_at hl 0 rfl) ?_
          refine lv_ishl hx hb d_VF_dissentersFrom_71 ?_
          refine lv_iconst (v := -1) hx hb d_VF_dissentersFrom_72 (by decide) ?_
          refine lv_ixor hx hb d_VF_dissentersFrom_73 ?_
          refine lv_iand hx hb d_VF_dissentersFrom_74 ?_
          refine lv_istore_n hx hb d_VF_dissentersFrom_75 rfl hl (by decide) rfl (fun ls hl => ?_)
          have hl : lv_has ls 5 [(3, .int ((qm_ds y v (v 20 0) i x k) &&& (((1 : Int32) <<< ((nI k) &&& 31)) ^^^ (-1)))), (4, .int (nI k)), (0, .ref (qa_a y 0 0)), (1, .int x), (2, .ref (qa_a y 2 i))] := hl
          refine lv_iinc (v := nI (k + 1)) hx hb d_VF_dissentersFrom_76 hl (k := 1) rfl (nI_1 k) (by decide) rfl (fun ls hl => ?_)
          have hl : lv_has ls 5 [(4, .int (nI (k + 1))), (3, .int ((qm_ds y v (v 20 0) i x k) &&& (((1 : Int32) <<< ((nI k) &&& 31)) ^^^ (-1)))), (0, .ref (qa_a y 0 0)), (1, .int x), (2, .ref (qa_a y 2 i))] := hl
          refine lv_goto hx hb d_VF_dissentersFrom_79 rfl ?_
          have hhe := qm_he_in (i := i) hn7 hh hk
          have e5 : qm_ds y v (v 20 0) i x (k + 1) = qm_ds y v (v 20 0) i x k &&& (((1 : Int32) <<< (nI k &&& 31)) ^^^ (-1)) := if_pos ⟨by rw [← hhe]; exact qb_n0 h35, h64⟩
          refine ih (k + 1) ls (by omega) ?_
          rw [e5]
          exact lv_sub hl [0, 1, 2, 3, 4] rfl
  refine lv_aload_n hx hb d_VF_dissentersFrom_0 rfl (lv_at hl 2 rfl) ?_
  refine qa_get (k := 2) (i := i) (f := 11) (val := .int (v 2 i 11)) E hC hi rfl rfl (by decide) f_VF_142 rfl rfl d_VF_dissentersFrom_1 ?_
  refine lv_iconst (v := 1) hx hb d_VF_dissentersFrom_4 (by decide) ?_
  refine lv_aload_n hx hb d_VF_dissentersFrom_5 rfl (lv_at hl 2 rfl) ?_
  refine qa_get (k := 2) (i := i) (f := 0) (val := .int (nI i)) E hC hi rfl rfl (by decide) f_VF_236 rfl rfl d_VF_dissentersFrom_6 ?_
  refine lv_ishl hx hb d_VF_dissentersFrom_9 ?_
  refine lv_iconst (v := -1) hx hb d_VF_dissentersFrom_10 (by decide) ?_
  refine lv_ixor hx hb d_VF_dissentersFrom_11 ?_
  refine lv_iand hx hb d_VF_dissentersFrom_12 ?_
  refine lv_istore_n hx hb d_VF_dissentersFrom_13 rfl hl (by decide) rfl (fun ls hl => ?_)
  have hl : lv_has ls 5 [(3, .int ((v 2 i 11) &&& (((1 : Int32) <<< ((nI i) &&& 31)) ^^^ (-1)))), (0, .ref (qa_a y 0 0)), (1, .int x), (2, .ref (qa_a y 2 i))] := hl
  refine lv_iconst (v := 0) hx hb d_VF_dissentersFrom_14 (by decide) ?_
  refine lv_istore hx hb d_VF_dissentersFrom_15 hl (by decide) rfl (fun ls hl => ?_)
  have hl : lv_has ls 5 [(4, .int 0), (3, .int ((v 2 i 11) &&& (((1 : Int32) <<< ((nI i) &&& 31)) ^^^ (-1)))), (0, .ref (qa_a y 0 0)), (1, .int x), (2, .ref (qa_a y 2 i))] := hl
  exact loop (qa_n y) 0 ls (by omega) (lv_sub hl [0, 1, 2, 3, 4] rfl)

set_option maxHeartbeats 4000000 in
set_option maxRecDepth 100000 in
theorem c_VF_vote (l : Launch) (y : qa_L) (v : qa_M) (i t : Nat) (hi : i < qa_n y) (ht : t < 4) (hh : v 2 i 12 = qm_hm y v i (qa_n y)) (hsz : qm_bc (v 2 i 11) = nI (qm_sz v i) ∧ qm_sz v i ≤ 7) (hlen : (qm_bl y v (v 20 0) i (qa_n y)).length ≤ qm_sz v i) : qa_Mv l y_VF_vote b_VF_vote 5 2 [.ref (qa_a y 0 0), .ref (qa_a y 2 i), .int (nI t)] y v (fun u => (∀ a b f, a ≠ 21 → ¬ (a = 7 ∧ b = i ∧ f = t) → ¬ (a = 2 ∧ b = i ∧ f = 13) → u a b f = v a b f) ∧ u 7 i t = (qm_wn y v (v 20 0) i).getD 0 ∧ u 2 i 13 = qm_va y v (v 20 0) i (v 2 i 13)) := by
  refine qa_ofMv (plainFor_of_name (by decide)) (Nat.le_of_ble_eq_true rfl) ?_
  intro p e s m below meth c ls E hr hlocks hC hl
  have E : qa_E p m c b_VF_vote 5 s _ "VotedFrames" y := E
  have F := E.1
  have hx := F.1
  have hb := F.2.1
  have hown : s.vm.findClass "VotedFrames" = some m.cls := F.2.2.2.1
  have hts := F.2.2.2.2
  have hn4 : 4 ≤ qa_n y := E.2.1.2.2.1
  have hn7 : qa_n y ≤ 7 := E.2.1.2.2.2.1
  have hl : lv_has ls 5 [(0, .ref (qa_a y 0 0)), (1, .ref (qa_a y 2 i)), (2, .int (nI t))] := hl
  obtain ⟨bl, hl9⟩ : ∃ bl, bl = qm_bl y v (v 20 0) i (qa_n y) := ⟨_, rfl⟩
  have hln : bl.length ≤ qa_n y := by
    have := qm_ls_len (p := qm_he y v i) (own := v 20 0 i) (f := qm_sr v (v 20 0) i) (i := i) qm_he_i (qa_n y)
    rw [if_pos hi] at this
    rw [hl9]; exact this
  rw [← hl9] at hlen
  refine lv_aload_n hx hb d_VF_vote_0 rfl (lv_at hl 0 rfl) ?_
  refine lv_aload_n hx hb d_VF_vote_1 rfl (lv_at hl 1 rfl) ?_
  refine qa_mV (k := 0) (i := 0) (As := [.ref (qa_a y 2 i)]) E hC (c_VF_fillBallot l y v i hi hh) Nat.one_pos rfl rfl k_VF_221 (qa_fitR (by decide) (by decide)) rfl hl.1 rfl (Nat.le_of_ble_eq_true rfl) d_VF_vote_2 (fun r1 u1 H locs hp1 hC => ?_)
  rw [← hl9] at hp1
  rw [hp1.1]
  have hfr := hp1.2.2
  have hhd := hp1.2.1
  refine lv_istore_n hx hb d_VF_vote_5 rfl hl (by decide) rfl (fun ls hl => ?_)
  have hl : lv_has ls 5 [(3, .int (nI (bl.length))), (0, .ref (qa_a y 0 0)), (1, .ref (qa_a y 2 i)), (2, .int (nI t))] := hl
  refine lv_aload_n hx hb d_VF_vote_6 rfl (lv_at hl 1 rfl) ?_
  refine qa_get (k := 0) (i := 0) (f := 10) (val := .ref (qa_a y 21 0)) E hC Nat.one_pos rfl rfl (by decide) f_VF_69 rfl rfl d_VF_vote_7 ?_
  refine lv_iload_n hx hb d_VF_vote_10 rfl (lv_at hl 0 rfl) ?_
  refine lv_aload_n hx hb d_VF_vote_11 rfl (lv_at hl 2 rfl) ?_
  refine qa_pV (k := 2) (i := i) (As := []) E hC (c_ND_memberCount l y u1 i hi) hi rfl rfl k_VF_225 (qa_fitR (by decide) (by decide)) rfl hl.1 rfl (Nat.le_of_ble_eq_true rfl) d_VF_vote_12 ?_
  refine qa_pS (As := [.ref (qa_a y 21 0), .int (nI (bl.length)), .int (qm_bc (u1 2 i 11))]) E hC (c_VF_majorityPlace_21 l y u1 (bl.length) (qm_bc (u1 2 i 11)) hln) k_VF_228 (qa_fitR (by decide) (by decide)) rfl hl.1 rfl (Nat.le_of_ble_eq_true rfl) d_VF_vote_15 ?_
  rw [show u1 2 i 11 = v 2 i 11 by rw [hfr 2 (by decide)], hsz.1]
  rcases qm_mp_l hhd (by omega) (show qm_sz v i < 1000 by omega) with ⟨e1, e2⟩ | ⟨p9, hp9, e1, e2⟩
  · have ew : qm_wn y v (v 20 0) i = none := by unfold qm_wn; rw [← hl9]; exact qm_win_no e2
    have e3 : ¬ 0 ≤ qm_mp (u1 21 0) bl.length (nI (qm_sz v i)) := by rw [e1]; decide
    refine lv_istore hx hb d_VF_vote_18 hl (by decide) rfl (fun ls hl => ?_)
    have hl : lv_has ls 5 [(4, .int (qm_mp (u1 21 0) bl.length (nI (qm_sz v i)))), (3, .int (nI (bl.length))), (0, .ref (qa_a y 0 0)), (1, .ref (qa_a y 2 i)), (2, .int (nI t))] := hl
    refine lv_iload hx hb d_VF_vote_20 (lv_at hl 0 rfl) ?_
    refine lv_if_ge hx hb d_VF_vote_22 rfl (fun h9 => absurd h9 e3) (fun _ => ?_)
    refine lv_aload_n hx hb d_VF_vote_25 rfl (lv_at hl 3 rfl) ?_
    refine qa_get (k := 2) (i := i) (f := 5) (val := .ref (qa_a y 7 i)) E hC hi rfl rfl (by decide) f_VF_139 rfl rfl d_VF_vote_26 ?_
    refine lv_iload_n hx hb d_VF_vote_29 rfl (lv_at hl 4 rfl) ?_
    refine lv_iconst (v := 0) hx hb d_VF_vote_30 (by decide) ?_
    refine qa_ist (k := 7) (i := i) (j := t) E hC hi rfl rfl rfl ht d_VF_vote_31 (fun H locs hC => ?_)
    exact qa_mvret E hC hr hlocks ⟨fun a b f h1 h2 h3 => by rw [show qa_up u1 7 i t 0 a b f = u1 a b f by simp only [qa_up]; rw [if_neg h2], hfr a h1], by rw [qa_up_s, ew]; rfl, by rw [qa_up_k (by decide), hfr 2 (by decide)]; unfold qm_va; rw [ew]⟩ d_VF_vote_32
  · have ew : qm_wn y v (v 20 0) i = some (u1 21 0 p9) := by unfold qm_wn; rw [← hl9]; exact qm_win_in hlen e2
    have e3 : 0 ≤ qm_mp (u1 21 0) bl.length (nI (qm_sz v i)) := by rw [e1]; exact nI_pos' (by omega)
    have hp9n : p9 < qa_n y := by omega
    refine lv_istore hx hb d_VF_vote_18 hl (by decide) rfl (fun ls hl => ?_)
    have hl : lv_has ls 5 [(4, .int (qm_mp (u1 21 0) bl.length (nI (qm_sz v i)))), (3, .int (nI (bl.length))), (0, .ref (qa_a y 0 0)), (1, .ref (qa_a y 2 i)), (2, .int (nI t))] := hl
    refine lv_iload hx hb d_VF_vote_20 (lv_at hl 0 rfl) ?_
    refine lv_if_ge hx hb d_VF_vote_22 rfl (fun _ => ?_) (fun h9 => absurd e3 h9)
    refine lv_aload_n hx hb d_VF_vote_33 rfl (lv_at hl 3 rfl) ?_
    refine qa_get (k := 2) (i := i) (f := 5) (val := .ref (qa_a y 7 i)) E hC hi rfl rfl (by decide) f_VF_139 rfl rfl d_VF_vote_34 ?_
    refine lv_iload_n hx hb d_VF_vote_37 rfl (lv_at hl 4 rfl) ?_
    refine lv_aload_n hx hb d_VF_vote_38 rfl (lv_at hl 2 rfl) ?_
    refine qa_get (k := 0) (i := 0) (f := 10) (val := .ref (qa_a y 21 0)) E hC Nat.one_pos rfl rfl (by decide) f_VF_69 rfl rfl d_VF_vote_39 ?_
    refine lv_iload hx hb d_VF_vote_42 (lv_at hl 0 rfl) ?_
    refine qa_ild (k := 21) (i := 0) (j := p9) E hC Nat.one_pos rfl rfl e1 hp9n d_VF_vote_44 ?_
    refine qa_ist (k := 7) (i := i) (j := t) E hC hi rfl rfl rfl ht d_VF_vote_45 (fun H locs hC => ?_)
    have e7 : qm_hm y (qa_up u1 7 i t (u1 21 0 p9)) i (qa_n y) = qm_hm y v i (qa_n y) := qm_hm_n (fun a => by rw [qa_up_kk (by decide), hfr 2 (by decide)]) (fun a => by rw [qa_up_kk (by decide), hfr 3 (by decide)]) _
    refine lv_aload_n hx hb d_VF_vote_46 rfl (lv_at hl 3 rfl) ?_
    refine lv_dup hx hb d_VF_vote_47 rfl ?_
    refine qa_get (k := 2) (i := i) (f := 13) (val := .int ((qa_up u1 7 i t (u1 21 0 p9)) 2 i 13)) E hC hi rfl rfl (by decide) f_VF_149 rfl rfl d_VF_vote_48 ?_
    refine lv_aload_n hx hb d_VF_vote_51 rfl (lv_at hl 2 rfl) ?_
    refine lv_aload_n hx hb d_VF_vote_52 rfl (lv_at hl 2 rfl) ?_
    refine qa_get (k := 0) (i := 0) (f := 10) (val := .ref (qa_a y 21 0)) E hC Nat.one_pos rfl rfl (by decide) f_VF_69 rfl rfl d_VF_vote_53 ?_
    refine lv_iload hx hb d_VF_vote_56 (lv_at hl 0 rfl) ?_
    refine qa_ild (k := 21) (i := 0) (j := p9) E hC Nat.one_pos rfl rfl e1 hp9n d_VF_vote_58 ?_
    refine lv_aload_n hx hb d_VF_vote_59 rfl (lv_at hl 3 rfl) ?_
    refine qa_pV (k := 0) (i := 0) (As := [.int ((qa_up u1 7 i t (u1 21 0 p9)) 21 0 p9), .ref (qa_a y 2 i)]) E hC (c_VF_dissentersFrom l y (qa_up u1 7 i t (u1 21 0 p9)) i ((qa_up u1 7 i t (u1 21 0 p9)) 21 0 p9) hi (by rw [qa_up_k (by decide), hfr 2 (by decide), hh]; exact e7.symm)) Nat.one_pos rfl rfl k_VF_232 (qa_fitR (by decide) (by decide)) rfl hl.1 rfl (Nat.le_of_ble_eq_true rfl) d_VF_vote_60 ?_
    have e8 : qm_ds y (qa_up u1 7 i t (u1 21 0 p9)) ((qa_up u1 7 i t (u1 21 0 p9)) 20 0) i ((qa_up u1 7 i t (u1 21 0 p9)) 21 0 p9) (qa_n y) = qm_ds y v (v 20 0) i (u1 21 0 p9) (qa_n y) := by
      rw [show (qa_up u1 7 i t (u1 21 0 p9)) 21 0 p9 = u1 21 0 p9 from qa_up_k (by decide), show (qa_up u1 7 i t (u1 21 0 p9)) 20 0 = v 20 0 by rw [qa_up_kk (by decide), hfr 20 (by decide)]]
      exact qm_ds_n (fun a f => by rw [qa_up_k (by decide), hfr 2 (by decide)]) (fun a => by rw [qa_up_kk (by decide), hfr 3 (by decide)]) (by rw [qa_up_k (by decide), hfr 0 (by decide)]) _
    rw [e8]
    refine lv_ior hx hb d_VF_vote_63 ?_
    refine qa_put (k := 2) (i := i) (f := 13) E hC hi rfl rfl (by decide) f_VF_149 rfl rfl rfl rfl d_VF_vote_64 (fun H locs hC => ?_)
    exact qa_mvret E hC hr hlocks ⟨fun a b f h1 h2 h3 => by rw [show qa_up (qa_up u1 7 i t (u1 21 0 p9)) 2 i 13 _ a b f = u1 a b f by simp only [qa_up]; rw [if_neg h3, if_neg h2], hfr a h1], by rw [qa_up_k (by decide), qa_up_s, ew]; rfl, by rw [qa_up_s, qa_up_k (by decide), hfr 2 (by decide)]; unfold qm_va; rw [ew]⟩ d_VF_vote_67
