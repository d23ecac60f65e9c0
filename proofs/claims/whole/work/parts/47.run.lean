set_option maxHeartbeats 4000000 in
set_option maxRecDepth 100000 in
theorem c_VF_run (l : Launch) (y : qa_L) (v : qa_M) (z : Int32) (hm : qm_mok y v) (hp : qm_pok (qa_n y) v) (h19 : v 19 0 = fun _ => 0) : qa_Mi l y_VF_run b_VF_run 4 (some .int) 9 [.ref (qa_a y 0 0), .int z] y v (fun r u => r = (if qm_wi z 1 4 = true then qm_is y v (qm_ix z) else -1) ∧ qm_eq u (if qm_wi z 1 4 = true then qm_it y v (qm_ix z) else v)) := by
  refine qa_ofMi (plainFor_of_name (by decide)) (Nat.le_of_ble_eq_true rfl) ?_
  intro p e s m below meth c ls E hr hlocks hC hl
  have E : qa_E p m c b_VF_run 4 s _ "VotedFrames" y := E
  have F := E.1
  have hx := F.1
  have hb := F.2.1
  have hown : s.vm.findClass "VotedFrames" = some m.cls := F.2.2.2.1
  have hts := F.2.2.2.2
  have hn4 : 4 ≤ qa_n y := E.2.1.2.2.1
  have hn7 : qa_n y ≤ 7 := E.2.1.2.2.2.1
  have hl : lv_has ls 4 [(0, .ref (qa_a y 0 0)), (1, .int z)] := hl
  by_cases g1 : qm_wi z 1 4 = true
  · obtain ⟨K, hK1, hK4, rfl⟩ := qm_wi_14 g1
    rw [if_pos g1, if_pos g1, show qm_ix (nI K) = K from qm_ix_n (by omega)]
    have hl : lv_has ls 4 [(0, .ref (qa_a y 0 0)), (1, .int (nI K))] := hl
    have loop : ∀ (d k : Nat) (u : qa_M) (H : Heap) (locs : List Loc) (ls : Array Slot), k + d = K → qa_C y u s H locs → (qm_eq u (qm_it y v k)) → lv_has ls 4 [(3, .int (nI k)), (2, .int (qm_is y v k)), (0, .ref (qa_a y 0 0)), (1, .int (nI K))] → W p l e (qa_R 9) s m [.ref (qa_a y 0 0), .int (nI K)].toArray below meth c H locs 0 0 (MQ below (va_Qi (fun r u => r = qm_is y v K ∧ qm_eq u (qm_it y v K)) (fun u t => qa_W y u t) (qa_A y)) [.ref (qa_a y 0 0), .int (nI K)].toArray s 0 0 (qa_A y)) (F0 m 15 ls []) := by
      intro d
      induction d with
      | zero =>
        intro k u H locs ls hkd hC hI hl
        obtain rfl : K = k := by omega
        refine lv_iload_n hx hb d_VF_run_15 rfl (lv_at hl 0 rfl) ?_
        refine lv_iload_n hx hb d_VF_run_16 rfl (lv_at hl 3 rfl) ?_
        refine lv_icmp_ge hx hb d_VF_run_17 rfl (fun _ => ?_) (fun h9 => absurd (nI_le (Nat.le_refl _) (by omega)) h9)
        refine lv_iload_n hx hb d_VF_run_33 rfl (lv_at hl 1 rfl) ?_
        exact qa_mret E hC hr hlocks ⟨rfl, hI⟩ d_VF_run_34
      | succ d ih =>
        intro k u H locs ls hkd hC hI hl
        have hk : k < K := by omega
        refine lv_iload_n hx hb d_VF_run_15 rfl (lv_at hl 0 rfl) ?_
        refine lv_iload_n hx hb d_VF_run_16 rfl (lv_at hl 3 rfl) ?_
        refine lv_icmp_ge hx hb d_VF_run_17 rfl (fun h9 => absurd h9 (nI_ge hk (by omega))) (fun _ => ?_)
        refine lv_iload_n hx hb d_VF_run_20 rfl (lv_at hl 1 rfl) ?_
        refine lv_aload_n hx hb d_VF_run_21 rfl (lv_at hl 2 rfl) ?_
        refine qa_mV (k := 0) (i := 0) (As := []) E hC (c_VF_runFrame l y u (qm_mok_n (fun i => by rw [(qm_eq_k hI).2.1]) (qm_mok_it hn7 hm k)) (qm_pok_n (by rw [(qm_eq_k hI).2.2.2.2.2.2.2.1]; exact qm_it_kk k (by decide) (by decide) (by decide) (by decide) (by decide) (by decide)) (by rw [(qm_eq_k hI).2.2.2.2.2.2.2.2.1]; exact qm_it_kk k (by decide) (by decide) (by decide) (by decide) (by decide) (by decide)) (by rw [(qm_eq_k hI).2.2.2.2.2.2.2.2.2.1]; exact qm_it_kk k (by decide) (by decide) (by decide) (by decide) (by decide) (by decide)) hp) (by rw [hI 19 (by decide) (by decide) (by decide) (by decide) (by decide) (by decide) (by decide), qm_it_kk k (by decide) (by decide) (by decide) (by decide) (by decide) (by decide)]; exact h19)) Nat.one_pos rfl rfl k_VF_124 (qa_fitR (by decide) (by decide)) rfl hl.1 rfl (Nat.le_of_ble_eq_true rfl) d_VF_run_22 (fun r1 u1 H locs hp1 hC => ?_)
        refine lv_iadd hx hb d_VF_run_25 ?_
        refine lv_istore_n hx hb d_VF_run_26 rfl hl (by decide) rfl (fun ls hl => ?_)
        have hl : lv_has ls 4 [(2, .int ((qm_is y v k) + r1)), (3, .int (nI k)), (0, .ref (qa_a y 0 0)), (1, .int (nI K))] := hl
        refine lv_iinc (v := nI (k + 1)) hx hb d_VF_run_27 hl (k := 1) rfl (nI_1 k) (by decide) rfl (fun ls hl => ?_)
        have hl : lv_has ls 4 [(3, .int (nI (k + 1))), (2, .int ((qm_is y v k) + r1)), (0, .ref (qa_a y 0 0)), (1, .int (nI K))] := hl
        refine lv_goto hx hb d_VF_run_30 rfl ?_
        have e5 : qm_is y v (k + 1) = qm_is y v k + r1 := by rw [qm_is, hp1.1, qm_FS_n hI]
        refine ih (k + 1) u1 H locs ls (by omega) hC (qm_eq_t hp1.2 (qm_FR_n hI)) ?_
        rw [e5]
        exact lv_sub hl [0, 1, 2, 3] rfl
    refine lv_iload_n hx hb d_VF_run_0 rfl (lv_at hl 1 rfl) ?_
    refine lv_iconst (v := 1) hx hb d_VF_run_1 (by decide) ?_
    refine lv_iconst (v := 4) hx hb d_VF_run_2 (by decide) ?_
    refine qa_pT (As := [.int (nI K), .int 1, .int 4]) F (c_VF_within l (nI K) 1 4) k_VF_17 (qa_fitR (by decide) (by decide)) rfl hl.1 rfl (Nat.le_of_ble_eq_true rfl) d_VF_run_3 ?_
    refine lv_if_ne hx hb d_VF_run_6 rfl (fun _ => ?_) (fun h9 => absurd h9 (qb_nz g1))
    refine lv_iconst (v := 0) hx hb d_VF_run_11 (by decide) ?_
    refine lv_istore_n hx hb d_VF_run_12 rfl hl (by decide) rfl (fun ls hl => ?_)
    have hl : lv_has ls 4 [(2, .int 0), (0, .ref (qa_a y 0 0)), (1, .int (nI K))] := hl
    refine lv_iconst (v := 0) hx hb d_VF_run_13 (by decide) ?_
    refine lv_istore_n hx hb d_VF_run_14 rfl hl (by decide) rfl (fun ls hl => ?_)
    have hl : lv_has ls 4 [(3, .int 0), (2, .int 0), (0, .ref (qa_a y 0 0)), (1, .int (nI K))] := hl
    exact loop K 0 v _ _ ls (by omega) hC (qm_eq_r v) (lv_sub hl [0, 1, 2, 3] rfl)
  · refine lv_iload_n hx hb d_VF_run_0 rfl (lv_at hl 1 rfl) ?_
    refine lv_iconst (v := 1) hx hb d_VF_run_1 (by decide) ?_
    refine lv_iconst (v := 4) hx hb d_VF_run_2 (by decide) ?_
    refine qa_pT (As := [.int z, .int 1, .int 4]) F (c_VF_within l z 1 4) k_VF_17 (qa_fitR (by decide) (by decide)) rfl hl.1 rfl (Nat.le_of_ble_eq_true rfl) d_VF_run_3 ?_
    refine lv_if_ne hx hb d_VF_run_6 rfl (fun h9 => absurd (qb_zf (Bool.eq_false_iff.mpr g1)) h9) (fun _ => ?_)
    refine lv_iconst (v := -1) hx hb d_VF_run_9 (by decide) ?_
    exact qa_mret E hC hr hlocks ⟨by rw [if_neg g1], by rw [if_neg g1]; exact qm_eq_r v⟩ d_VF_run_10
