set_option maxHeartbeats 4000000 in
set_option maxRecDepth 100000 in
theorem qL_make {p : Program} {e : Env} {s : State} {m : MethodId} {below : List Frame} {meth : Method} {c : Code} (l : Launch) {b L : Nat} {xs : Nat → Int32} {y : qa_L} (hL : L ≤ 2563) (E : qc_E p m c code 4 s #[Value.ref b] "VotedFramesLaw" y) (hX : va_X b L xs s s.heap) (hbl : b < s.heap.size) (hh : qa_a y 0 0 = s.heap.size) (hAs : qa_As y = (List.range (47 + 6 * qa_n y + qa_m y)).map (fun q => qa_a y 0 0 + q)) (hr : meth.sig.returnType = ret) (hlocks : meth.locks = false) (hn : qm_max 4 (qm_min 7 (if 0 < L then xs 0 else 0)) = nI (qa_n y)) (hm : (if qm_wi (if 1 < L then xs 1 else 0) 0 ((nI (qa_n y) - 1) / 3) = true then (if 1 < L then xs 1 else 0) else (nI (qa_n y) - 1) / 3) = nI (qa_m y)) (hd : qm_max 1 (qm_min 200 (if 2 < L then xs 2 else 0)) = qa_d y) (ls : Array Slot) (hl : lv_has ls 4 [(0, .ref b)]) : W p l e room_1 s m #[Value.ref b] below meth c s.heap [] (0) (0) (lw_Z below #[Value.ref b] s) (F0 m 0 ls []) := by
  have F := E.1.1
  have hx := F.1
  have hb := F.2.1
  have hn4 : 4 ≤ qa_n y := E.1.2.1.2.2.1
  have hn7 : qa_n y ≤ 7 := E.1.2.1.2.2.2.1
  have hbA : ¬ qc_A y b := fun z => by
    have z2 : qa_a y 0 0 ≤ b := z
    omega
  have hC : qc_C y (qc_v (qa_n y)) 0 [] s s.heap [] := ⟨⟨hh.symm, (fun x hx => by cases hx), fun q hq => absurd hq (Nat.not_lt_zero _)⟩, va_S.rf, Nat.le_of_eq hh⟩
  refine qc_new (k := 0) (i := 0) (ci := 0) (fs := [.int 0, .int 0, .int 0, .null, .null, .null, .null, .null, .null, .null, .null, .int 0]) E hC rfl rfl t_VF t_VF_ok (qa_m1 9 (by decide +kernel) rfl) (qa_m1 10 (by decide +kernel) rfl) (qa_m1 1 (by decide +kernel) rfl) (fun j hj => by rcases (show j = 0 ∨ j = 1 ∨ j = 2 ∨ j = 3 ∨ j = 4 ∨ j = 5 ∨ j = 6 ∨ j = 7 ∨ j = 8 ∨ j = 9 ∨ j = 10 ∨ j = 11 by omega) with rfl | rfl | rfl | rfl | rfl | rfl | rfl | rfl | rfl | rfl | rfl | rfl <;> rfl) (Nat.le_of_ble_eq_true rfl) (Nat.le_of_ble_eq_true rfl) d_LW_law_0 (fun H hC => ?_)
  have hC : qc_C y (qc_v (qa_n y)) (0 + 1) ((0, .inr (0, [.int 0, .int 0, .int 0, .null, .null, .null, .null, .null, .null, .null, .null, .int 0])) :: []) s _ _ := hC
  refine lv_dup hx hb d_LW_law_3 rfl ?_
  refine lv_aload_n hx hb d_LW_law_4 rfl (lv_at hl 0 rfl) ?_
  refine lv_iconst (v := 0) hx hb d_LW_law_5 (by decide) ?_
  refine qL_cX (As := [.ref b, .int (nI 0)]) F hX hbl hbA hC.2.1 (c_LW_cell l b L xs 0 (by decide) hL) k_LW_9 ⟨Nat.le_of_ble_eq_true rfl, Nat.le_of_ble_eq_true rfl, Nat.le_of_ble_eq_true rfl, Nat.le_of_ble_eq_true rfl⟩ rfl hl.1 rfl (Nat.le_of_ble_eq_true rfl) d_LW_law_6 ?_
  refine lv_aload_n hx hb d_LW_law_9 rfl (lv_at hl 0 rfl) ?_
  refine lv_iconst (v := 1) hx hb d_LW_law_10 (by decide) ?_
  refine qL_cX (As := [.ref b, .int (nI 1)]) F hX hbl hbA hC.2.1 (c_LW_cell l b L xs 1 (by decide) hL) k_LW_9 ⟨Nat.le_of_ble_eq_true rfl, Nat.le_of_ble_eq_true rfl, Nat.le_of_ble_eq_true rfl, Nat.le_of_ble_eq_true rfl⟩ rfl hl.1 rfl (Nat.le_of_ble_eq_true rfl) d_LW_law_11 ?_
  refine lv_aload_n hx hb d_LW_law_14 rfl (lv_at hl 0 rfl) ?_
  refine lv_iconst (v := 2) hx hb d_LW_law_15 (by decide) ?_
  refine qL_cX (As := [.ref b, .int (nI 2)]) F hX hbl hbA hC.2.1 (c_LW_cell l b L xs 2 (by decide) hL) k_LW_9 ⟨Nat.le_of_ble_eq_true rfl, Nat.le_of_ble_eq_true rfl, Nat.le_of_ble_eq_true rfl, Nat.le_of_ble_eq_true rfl⟩ rfl hl.1 rfl (Nat.le_of_ble_eq_true rfl) d_LW_law_16 ?_
  have hC : qc_C y (qc_v (qa_n y)) (1) ((0, .inr (0, [.int 0, .int 0, .int 0, .null, .null, .null, .null, .null, .null, .null, .null, .int 0])) :: []) s _ _ := hC.cast (by omega)
  refine qc_cI (As := [.int (if 0 < L then xs 0 else 0), .int (if 1 < L then xs 1 else 0), .int (if 2 < L then xs 2 else 0)]) E hC (c_VF_init l y (if 0 < L then xs 0 else 0) (if 1 < L then xs 1 else 0) (if 2 < L then xs 2 else 0) hn hm hd) (show qc_LI "VotedFramesLaw" 15 y_VF_init b_VF_init 6 3 from ⟨(qa_m1 11 (by decide +kernel) rfl), (qa_m1 12 (by decide +kernel) rfl), (qa_m1 1 (by decide +kernel) rfl), w_VF_init, rfl, ⟨by decide, by decide, by decide +kernel⟩⟩) ⟨Nat.le_of_ble_eq_true rfl, Nat.le_of_ble_eq_true rfl, (Nat.le_of_ble_eq_true rfl), (Nat.le_of_ble_eq_true rfl)⟩ rfl hl.1 rfl (Nat.le_of_ble_eq_true rfl) d_LW_law_19 (fun H locs hC => ?_)
  have hC : qc_C y (qc_v (qa_n y)) (3 + 6 * qa_n y + qa_m y + 22) ([]) s _ _ := hC
  refine lv_astore_n hx hb d_LW_law_22 rfl hl (by decide) rfl (fun ls hl => ?_)
  have hl : lv_has ls 4 [(1, .ref (qa_a y 0 0)), (0, .ref b)] := hl
  refine qc_new (k := 22) (i := 0) (ci := 5) (fs := [.int 0, .int 0, .int 0, .int 0, .int 0, .null, .null, .null, .null, .null, .null, .null, .null, .null, .null, .null, .null, .null, .null, .null, .null, .null, .null, .null, .null, .int 0, .null]) E hC rfl rfl t_MD t_MD_ok (qa_m3 21 (by decide +kernel) rfl) (qa_m3 22 (by decide +kernel) rfl) (qa_m1 7 (by decide +kernel) rfl) (fun j hj => by rcases (show j = 0 ∨ j = 1 ∨ j = 2 ∨ j = 3 ∨ j = 4 ∨ j = 5 ∨ j = 6 ∨ j = 7 ∨ j = 8 ∨ j = 9 ∨ j = 10 ∨ j = 11 ∨ j = 12 ∨ j = 13 ∨ j = 14 ∨ j = 15 ∨ j = 16 ∨ j = 17 ∨ j = 18 ∨ j = 19 ∨ j = 20 ∨ j = 21 ∨ j = 22 ∨ j = 23 ∨ j = 24 ∨ j = 25 ∨ j = 26 by omega) with rfl | rfl | rfl | rfl | rfl | rfl | rfl | rfl | rfl | rfl | rfl | rfl | rfl | rfl | rfl | rfl | rfl | rfl | rfl | rfl | rfl | rfl | rfl | rfl | rfl | rfl | rfl <;> rfl) (Nat.le_of_ble_eq_true rfl) (Nat.le_of_ble_eq_true rfl) d_LW_law_23 (fun H hC => ?_)
  have hC : qc_C y (qc_v (qa_n y)) (3 + 6 * qa_n y + qa_m y + 22 + 1) ((3 + 6 * qa_n y + qa_m y + 22, .inr (5, [.int 0, .int 0, .int 0, .int 0, .int 0, .null, .null, .null, .null, .null, .null, .null, .null, .null, .null, .null, .null, .null, .null, .null, .null, .null, .null, .null, .null, .int 0, .null])) :: []) s _ _ := hC
  refine lv_dup hx hb d_LW_law_26 rfl ?_
  refine lv_aload_n hx hb d_LW_law_27 rfl (lv_at hl 1 rfl) ?_
  refine lv_iconst (v := 0) hx hb d_LW_law_28 (by decide) ?_
  refine qL_cX (As := [.ref b, .int (nI 0)]) F hX hbl hbA hC.2.1 (c_LW_cell l b L xs 0 (by decide) hL) k_LW_9 ⟨Nat.le_of_ble_eq_true rfl, Nat.le_of_ble_eq_true rfl, Nat.le_of_ble_eq_true rfl, Nat.le_of_ble_eq_true rfl⟩ rfl hl.1 rfl (Nat.le_of_ble_eq_true rfl) d_LW_law_29 ?_
  refine lv_aload_n hx hb d_LW_law_32 rfl (lv_at hl 1 rfl) ?_
  refine lv_iconst (v := 1) hx hb d_LW_law_33 (by decide) ?_
  refine qL_cX (As := [.ref b, .int (nI 1)]) F hX hbl hbA hC.2.1 (c_LW_cell l b L xs 1 (by decide) hL) k_LW_9 ⟨Nat.le_of_ble_eq_true rfl, Nat.le_of_ble_eq_true rfl, Nat.le_of_ble_eq_true rfl, Nat.le_of_ble_eq_true rfl⟩ rfl hl.1 rfl (Nat.le_of_ble_eq_true rfl) d_LW_law_34 ?_
  refine lv_aload_n hx hb d_LW_law_37 rfl (lv_at hl 1 rfl) ?_
  refine lv_iconst (v := 2) hx hb d_LW_law_38 (by decide) ?_
  refine qL_cX (As := [.ref b, .int (nI 2)]) F hX hbl hbA hC.2.1 (c_LW_cell l b L xs 2 (by decide) hL) k_LW_9 ⟨Nat.le_of_ble_eq_true rfl, Nat.le_of_ble_eq_true rfl, Nat.le_of_ble_eq_true rfl, Nat.le_of_ble_eq_true rfl⟩ rfl hl.1 rfl (Nat.le_of_ble_eq_true rfl) d_LW_law_39 ?_
  have hC : qc_C y (qc_v (qa_n y)) (3 + 6 * qa_n y + qa_m y + 23) ((3 + 6 * qa_n y + qa_m y + 22, .inr (5, [.int 0, .int 0, .int 0, .int 0, .int 0, .null, .null, .null, .null, .null, .null, .null, .null, .null, .null, .null, .null, .null, .null, .null, .null, .null, .null, .null, .null, .int 0, .null])) :: []) s _ _ := hC.cast (by omega)
  refine qc_cI (As := [.int (if 0 < L then xs 0 else 0), .int (if 1 < L then xs 1 else 0), .int (if 2 < L then xs 2 else 0)]) E hC (c_MD_init l y (if 0 < L then xs 0 else 0) (if 1 < L then xs 1 else 0) (if 2 < L then xs 2 else 0) hn hm hd) (show qc_LI "VotedFramesLaw" 20 y_MD_init b_MD_init 6 3 from ⟨(qa_m3 23 (by decide +kernel) rfl), (qa_m3 24 (by decide +kernel) rfl), (qa_m1 7 (by decide +kernel) rfl), w_MD_init, rfl, ⟨by decide, by decide, by decide +kernel⟩⟩) ⟨Nat.le_of_ble_eq_true rfl, Nat.le_of_ble_eq_true rfl, (Nat.le_of_ble_eq_true rfl), (Nat.le_of_ble_eq_true rfl)⟩ rfl hl.1 rfl (Nat.le_of_ble_eq_true rfl) d_LW_law_42 (fun H locs hC => ?_)
  have hC : qc_C y (qc_v (qa_n y)) (3 + 6 * qa_n y + qa_m y + 44) ([]) s _ _ := hC
  refine lv_astore_n hx hb d_LW_law_45 rfl hl (by decide) rfl (fun ls hl => ?_)
  have hl : lv_has ls 4 [(2, .ref (qa_a y 22 0)), (1, .ref (qa_a y 0 0)), (0, .ref b)] := hl
  refine lv_iconst (v := 3) hx hb d_LW_law_46 (by decide) ?_
  refine lv_istore_n hx hb d_LW_law_47 rfl hl (by decide) rfl (fun ls hl => ?_)
  have hl : lv_has ls 4 [(3, .int 3), (2, .ref (qa_a y 22 0)), (1, .ref (qa_a y 0 0)), (0, .ref b)] := hl
  have hA : ∀ q, qa_A y q → s.heap.size ≤ q := fun q hq => by
    have hq2 : q ∈ qa_As y := hq
    rw [hAs] at hq2
    obtain ⟨z, -, rfl⟩ := List.mem_map.mp hq2
    rw [← hh]
    exact Nat.le_add_right _ _
  refine va_forget (fun q hq => by rw [← hh]; exact hC.2.1.2.2 q hq) ?_
  refine W.widen (k := 600000) (n := 7302250) (Nat.le_of_ble_eq_true rfl) (Nat.le_of_ble_eq_true rfl) ?_
  have hC2 : qa_C y (qc_v (qa_n y)) s _ [] := ⟨qc_done E.2.1 hAs hC.1, hC.2.1.1, fun q h1 h2 => hC.2.1.2.1 q h1 (fun z => by
    have z2 : qa_a y 0 0 ≤ q := z
    omega), fun l hl => by cases hl⟩
  exact qL_loop l hL E.1 hX hbl (fun z => absurd (hA b z) (by omega)) hA hr hlocks 512 0 0 _ _ [] ls (by omega) (by omega) (by omega) hC2 (qL_start hn4 hn7) (lv_sub hl [0, 3, 2, 1] rfl)
