set_option maxHeartbeats 4000000 in
set_option maxRecDepth 100000 in
theorem c_MD_run (l : Launch) (y : qa_L) (v : qa_M) (z : Int32) (w : qa_M) (hR : qm_RM (qa_n y) w v) (F : Nat) (hF4 : F + 4 < 2 ^ 31) (hF : w 0 0 11 = nI F) (hM : qm_mok y w) (hP : qm_pok (qa_n y) w) : qa_Mi l y_MD_run b_MD_run 3 (some .int) 8 [.ref (qa_a y 22 0), .int z] y v (fun r u => (r = if qm_wi z 1 4 = true then qm_is y w (qm_ix z) else -1) ∧ qm_RM (qa_n y) (if qm_wi z 1 4 = true then qm_it y w (qm_ix z) else w) u ∧ (∀ c b f, c < 22 → u c b f = v c b f)) := by
  refine qa_ofMi (plainFor_of_name (by decide)) (Nat.le_of_ble_eq_true rfl) ?_
  intro p e s m below meth c ls E hr hlocks hC hl
  have E : qa_E p m c b_MD_run 3 s _ "VotedFramesModel" y := E
  have F := E.1
  have hx := F.1
  have hb := F.2.1
  have hown : s.vm.findClass "VotedFramesModel" = some m.cls := F.2.2.2.1
  have hts := F.2.2.2.2
  have hn4 : 4 ≤ qa_n y := E.2.1.2.2.1
  have hn7 : qa_n y ≤ 7 := E.2.1.2.2.2.1
  have hl : lv_has ls 3 [(0, .ref (qa_a y 22 0)), (1, .int z)] := hl
  by_cases hz : qm_wi z 1 4 = true
  · obtain ⟨j, hj1, hj4, rfl⟩ := qm_wi_14 hz
    have hl : lv_has ls 3 [(0, .ref (qa_a y 22 0)), (1, .int (nI j))] := hl
    rw [if_pos hz, if_pos hz, qm_ix_n (by omega)]
    have loop : ∀ (d k : Nat) (u : qa_M) (H : Heap) (locs : List Loc) (ls : Array Slot), k + d = j → qa_C y u s H locs → (qm_RM (qa_n y) (qm_it y w k) u ∧ (∀ c b f, c < 22 → u c b f = v c b f) ∧ u 22 0 4 = qm_is y w k) → lv_has ls 3 [(2, .int (nI k)), (0, .ref (qa_a y 22 0)), (1, .int (nI j))] → W p l e (qa_R 8) s m [.ref (qa_a y 22 0), .int (nI j)].toArray below meth c H locs 0 0 (MQ below (va_Qi (fun r u => r = qm_is y w j ∧ qm_RM (qa_n y) (qm_it y w j) u ∧ (∀ c b f, c < 22 → u c b f = v c b f)) (fun u t => qa_W y u t) (qa_A y)) [.ref (qa_a y 22 0), .int (nI j)].toArray s 0 0 (qa_A y)) (F0 m 19 ls []) := by
      intro d
      induction d with
      | zero =>
        intro k u H locs ls hkd hC hI hl
        obtain rfl : j = k := by omega
        refine lv_iload_n hx hb d_MD_run_19 rfl (lv_at hl 0 rfl) ?_
        refine lv_iload_n hx hb d_MD_run_20 rfl (lv_at hl 2 rfl) ?_
        refine lv_icmp_ge hx hb d_MD_run_21 rfl (fun _ => ?_) (fun h9 => absurd (nI_le (Nat.le_refl _) (by omega)) h9)
        refine lv_aload_n hx hb d_MD_run_34 rfl (lv_at hl 1 rfl) ?_
        refine qa_get (k := 22) (i := 0) (f := 4) (val := .int (u 22 0 4)) E hC Nat.one_pos rfl rfl (by decide) f_MD_155 rfl rfl d_MD_run_35 ?_
        exact qa_mret E hC hr hlocks ⟨hI.2.2, hI.1, hI.2.1⟩ d_MD_run_38
      | succ d ih =>
        intro k u H locs ls hkd hC hI hl
        have hk : k < j := by omega
        refine lv_iload_n hx hb d_MD_run_19 rfl (lv_at hl 0 rfl) ?_
        refine lv_iload_n hx hb d_MD_run_20 rfl (lv_at hl 2 rfl) ?_
        refine lv_icmp_ge hx hb d_MD_run_21 rfl (fun h9 => absurd h9 (nI_ge hk (by omega))) (fun _ => ?_)
        refine lv_aload_n hx hb d_MD_run_24 rfl (lv_at hl 1 rfl) ?_
        refine qa_mVv (k := 22) (i := 0) (As := []) E hC (c_MD_one l y u (qm_it y w k) hI.1 (qm_fok_it hF hF4 (by omega)) (qm_mok_it hn7 hM k) (qm_pok_n (qm_it_kk k (by decide) (by decide) (by decide) (by decide) (by decide) (by decide)) (qm_it_kk k (by decide) (by decide) (by decide) (by decide) (by decide) (by decide)) (qm_it_kk k (by decide) (by decide) (by decide) (by decide) (by decide) (by decide)) hP)) Nat.one_pos rfl rfl k_MD_173 (qa_fitR (by decide) (by decide)) rfl hl.1 rfl (Nat.le_of_ble_eq_true rfl) d_MD_run_25 (fun u1 H locs hp1 hC => ?_)
        refine lv_iinc (v := nI (k + 1)) hx hb d_MD_run_28 hl (k := 0) rfl (nI_1 k) (by decide) rfl (fun ls hl => ?_)
        have hl : lv_has ls 3 [(2, .int (nI (k + 1))), (0, .ref (qa_a y 22 0)), (1, .int (nI j))] := hl
        refine lv_goto hx hb d_MD_run_31 rfl ?_
        exact ih (k + 1) _ H locs ls (by omega) hC ⟨hp1.1, fun c b f h => by rw [hp1.2.1 c b f h]; exact hI.2.1 c b f h, by rw [hp1.2.2, hI.2.2]; rfl⟩ (lv_sub hl [0, 1, 2] rfl)
    refine lv_iload_n hx hb d_MD_run_0 rfl (lv_at hl 1 rfl) ?_
    refine lv_iconst (v := 1) hx hb d_MD_run_1 (by decide) ?_
    refine lv_icmp_lt hx hb d_MD_run_2 rfl (fun h9 => absurd h9 (nI_nlt (b := 1) hj1 (by omega))) (fun _ => ?_)
    refine lv_iload_n hx hb d_MD_run_5 rfl (lv_at hl 1 rfl) ?_
    refine lv_iconst (v := 4) hx hb d_MD_run_6 (by decide) ?_
    refine lv_icmp_le hx hb d_MD_run_7 rfl (fun _ => ?_) (fun h9 => absurd (nI_le (b := 4) hj4 (by decide)) h9)
    refine lv_aload_n hx hb d_MD_run_12 rfl (lv_at hl 0 rfl) ?_
    refine lv_iconst (v := 0) hx hb d_MD_run_13 (by decide) ?_
    refine qa_put (k := 22) (i := 0) (f := 4) E hC Nat.one_pos rfl rfl (by decide) f_MD_155 rfl rfl rfl rfl d_MD_run_14 (fun H locs hC => ?_)
    refine lv_iconst (v := 0) hx hb d_MD_run_17 (by decide) ?_
    refine lv_istore_n hx hb d_MD_run_18 rfl hl (by decide) rfl (fun ls hl => ?_)
    have hl : lv_has ls 3 [(2, .int 0), (0, .ref (qa_a y 22 0)), (1, .int (nI j))] := hl
    exact loop j 0 _ H locs ls (by omega) hC ⟨qm_RM_v hR (Or.inl ⟨rfl, by decide⟩), fun c b f h => qa_up_k (by omega), qa_up_s⟩ (lv_sub hl [0, 1, 2] rfl)
  · rw [if_neg hz, if_neg hz]
    refine lv_iload_n hx hb d_MD_run_0 rfl (lv_at hl 1 rfl) ?_
    refine lv_iconst (v := 1) hx hb d_MD_run_1 (by decide) ?_
    refine lv_icmp_lt hx hb d_MD_run_2 rfl (fun h2 => ?_) (fun h2 => ?_)
    · refine lv_iconst (v := -1) hx hb d_MD_run_10 (by decide) ?_
      exact qa_mret E hC hr hlocks ⟨rfl, hR, fun _ _ _ _ => rfl⟩ d_MD_run_11
    · refine lv_iload_n hx hb d_MD_run_5 rfl (lv_at hl 1 rfl) ?_
      refine lv_iconst (v := 4) hx hb d_MD_run_6 (by decide) ?_
      refine lv_icmp_le hx hb d_MD_run_7 rfl (fun h7 => ?_) (fun h7 => ?_)
      · exact absurd (qm_wi_t (qm_nlt h2) h7) hz
      · refine lv_iconst (v := -1) hx hb d_MD_run_10 (by decide) ?_
        exact qa_mret E hC hr hlocks ⟨rfl, hR, fun _ _ _ _ => rfl⟩ d_MD_run_11
