set_option maxHeartbeats 4000000 in
set_option maxRecDepth 100000 in
theorem c_MD_push (l : Launch) (y : qa_L) (v : qa_M) (D : Nat) (x : Int32) (hD : v 22 0 25 = nI D) (hD6 : D < 6) : qa_Mv l y_MD_push b_MD_push 2 0 [.ref (qa_a y 22 0), .int x] y v (fun u => u = qa_up (qa_up v 42 0 D x) 22 0 25 (nI (D + 1))) := by
  refine qa_ofMv (plainFor_of_name (by decide)) (Nat.le_of_ble_eq_true rfl) ?_
  intro p e s m below meth c ls E hr hlocks hC hl
  have E : qa_E p m c b_MD_push 2 s _ "VotedFramesModel" y := E
  have F := E.1
  have hx := F.1
  have hb := F.2.1
  have hown : s.vm.findClass "VotedFramesModel" = some m.cls := F.2.2.2.1
  have hts := F.2.2.2.2
  have hn4 : 4 ≤ qa_n y := E.2.1.2.2.1
  have hn7 : qa_n y ≤ 7 := E.2.1.2.2.2.1
  have hl : lv_has ls 2 [(0, .ref (qa_a y 22 0)), (1, .int x)] := hl
  refine lv_aload_n hx hb d_MD_push_0 rfl (lv_at hl 0 rfl) ?_
  refine qa_get (k := 22) (i := 0) (f := 24) (val := .ref (qa_a y 42 0)) E hC Nat.one_pos rfl rfl (by decide) f_MD_67 rfl rfl d_MD_push_1 ?_
  refine lv_aload_n hx hb d_MD_push_4 rfl (lv_at hl 0 rfl) ?_
  refine qa_get (k := 22) (i := 0) (f := 25) (val := .int (v 22 0 25)) E hC Nat.one_pos rfl rfl (by decide) f_MD_129 rfl rfl d_MD_push_5 ?_
  refine lv_iload_n hx hb d_MD_push_8 rfl (lv_at hl 1 rfl) ?_
  refine qa_ist (k := 42) (i := 0) (j := D) E hC Nat.one_pos rfl rfl hD hD6 d_MD_push_9 (fun H locs hC => ?_)
  refine lv_aload_n hx hb d_MD_push_10 rfl (lv_at hl 0 rfl) ?_
  refine lv_dup hx hb d_MD_push_11 rfl ?_
  refine qa_get (k := 22) (i := 0) (f := 25) (val := .int ((qa_up v 42 0 D x) 22 0 25)) E hC Nat.one_pos rfl rfl (by decide) f_MD_129 rfl rfl d_MD_push_12 ?_
  refine lv_iconst (v := 1) hx hb d_MD_push_15 (by decide) ?_
  refine lv_iadd hx hb d_MD_push_16 ?_
  refine qa_put (k := 22) (i := 0) (f := 25) E hC Nat.one_pos rfl rfl (by decide) f_MD_129 rfl rfl rfl rfl d_MD_push_17 (fun H locs hC => ?_)
  exact qa_mvret E hC hr hlocks (by rw [qa_up_k (by decide), hD, nI_1]) d_MD_push_20

set_option maxHeartbeats 40000000 in
set_option maxRecDepth 100000 in
theorem c_MD_play (l : Launch) (y : qa_L) (v : qa_M) (t L IB WB : Nat) (ht : t < 4) (hL : v 39 0 t = nI L) (hL12 : L ≤ 12) (hP : ∀ z, z < L → qm_iok (qa_n y) (v 37 0 (12 * t + z)) (v 38 0 (12 * t + z))) (hIB : IB + 7 ≤ 56) (hWB : WB + 4 ≤ 32) : qa_Mi l y_MD_play b_MD_play 11 (some .int) 2 [.ref (qa_a y 22 0), .int (nI t), .int (nI IB), .int (nI WB)] y v (fun r u => r = qm_ex (fun z => v 37 0 (12 * t + z)) (fun z => v 38 0 (12 * t + z)) (fun z => v 33 0 (IB + z)) (fun z => v 32 0 (WB + z)) L 0 0 [] ∧ ∀ c b f, ¬ (c = 22 ∧ f = 25) → c ≠ 42 → u c b f = v c b f) := by
  refine qa_ofMi (plainFor_of_name (by decide)) (Nat.le_of_ble_eq_true rfl) ?_
  intro p e s m below meth c ls E hr hlocks hC hl
  have E : qa_E p m c b_MD_play 11 s _ "VotedFramesModel" y := E
  have F := E.1
  have hx := F.1
  have hb := F.2.1
  have hown : s.vm.findClass "VotedFramesModel" = some m.cls := F.2.2.2.1
  have hts := F.2.2.2.2
  have hn4 : 4 ≤ qa_n y := E.2.1.2.2.1
  have hn7 : qa_n y ≤ 7 := E.2.1.2.2.2.1
  have hl : lv_has ls 11 [(0, .ref (qa_a y 22 0)), (1, .int (nI t)), (2, .int (nI IB)), (3, .int (nI WB))] := hl
  have fin : ∀ (pp : Nat) (u : qa_M) (H : Heap) (locs : List Loc) (stk : List Int32) (ls : Array Slot), L ≤ pp → pp ≤ 24 → qa_C y u s H locs → (stk.length ≤ 6 ∧ u 22 0 25 = nI stk.length ∧ qm_st (u 42 0) stk ∧ (∀ c b f, ¬ (c = 22 ∧ f = 25) → c ≠ 42 → u c b f = v c b f) ∧ qm_ex (fun z => v 37 0 (12 * t + z)) (fun z => v 38 0 (12 * t + z)) (fun z => v 33 0 (IB + z)) (fun z => v 32 0 (WB + z)) (L - pp) pp 0 stk = qm_ex (fun z => v 37 0 (12 * t + z)) (fun z => v 38 0 (12 * t + z)) (fun z => v 33 0 (IB + z)) (fun z => v 32 0 (WB + z)) L 0 0 []) → lv_has ls 11 [(4, .int (nI pp)), (0, .ref (qa_a y 22 0)), (1, .int (nI t)), (2, .int (nI IB)), (3, .int (nI WB))] → W p l e (qa_R 2) s m [.ref (qa_a y 22 0), .int (nI t), .int (nI IB), .int (nI WB)].toArray below meth c H locs 0 0 (MQ below (va_Qi (fun r u => r = qm_ex (fun z => v 37 0 (12 * t + z)) (fun z => v 38 0 (12 * t + z)) (fun z => v 33 0 (IB + z)) (fun z => v 32 0 (WB + z)) L 0 0 [] ∧ ∀ c b f, ¬ (c = 22 ∧ f = 25) → c ≠ 42 → u c b f = v c b f) (fun u t => qa_W y u t) (qa_A y)) [.ref (qa_a y 22 0), .int (nI t), .int (nI IB), .int (nI WB)].toArray s 0 0 (qa_A y)) (F0 m 8 ls []) := by
    intro pp u H locs stk ls hp hp24 hC hI hl
    obtain ⟨i1, i2, i3, i4, i6⟩ := hI
    have hq : u 39 0 t = nI L := by rw [i4 39 0 t (by omega) (by omega)]; exact hL
    rw [show L - pp = 0 by omega] at i6
    cases stk with
    | nil =>
      have e8 : (-1000000001 : Int32) = qm_ex (fun z => v 37 0 (12 * t + z)) (fun z => v 38 0 (12 * t + z)) (fun z => v 33 0 (IB + z)) (fun z => v 32 0 (WB + z)) L 0 0 [] := by rw [← i6]; unfold qm_ex; rfl
      refine lv_iload hx hb d_MD_play_8 (lv_at hl 0 rfl) ?_
      refine lv_aload_n hx hb d_MD_play_10 rfl (lv_at hl 1 rfl) ?_
      refine qa_get (k := 22) (i := 0) (f := 21) (val := .ref (qa_a y 39 0)) E hC Nat.one_pos rfl rfl (by decide) f_MD_58 rfl rfl d_MD_play_11 ?_
      refine lv_iload_n hx hb d_MD_play_14 rfl (lv_at hl 2 rfl) ?_
      refine qa_ild (k := 39) (i := 0) (j := t) E hC Nat.one_pos rfl rfl rfl ht d_MD_play_15 ?_
      refine lv_icmp_ge hx hb d_MD_play_16 rfl (fun _ => ?_) (fun h9 => absurd (by rw [hq]; exact nI_le hp (by omega)) h9)
      refine lv_aload_n hx hb d_MD_play_307 rfl (lv_at hl 1 rfl) ?_
      refine qa_get (k := 22) (i := 0) (f := 25) (val := .int (u 22 0 25)) E hC Nat.one_pos rfl rfl (by decide) f_MD_129 rfl rfl d_MD_play_308 ?_
      refine lv_if_le hx hb d_MD_play_311 rfl (fun _ => ?_) (fun h9 => absurd (by rw [i2]; decide) h9)
      refine lv_ldc (v := -1000000001) hx hb hown (hts _ k_MD_132) d_MD_play_328 ?_
      exact qa_mret E hC hr hlocks ⟨e8, i4⟩ d_MD_play_330
    | cons b r =>
      have e6 : r.length < 6 := by simp at i1; omega
      have e7 : u 22 0 25 - 1 = nI r.length := by rw [i2, List.length_cons, nI_pred]
      have e8 : u 42 0 r.length = qm_ex (fun z => v 37 0 (12 * t + z)) (fun z => v 38 0 (12 * t + z)) (fun z => v 33 0 (IB + z)) (fun z => v 32 0 (WB + z)) L 0 0 [] := by rw [← i6]; unfold qm_ex; exact i3.1
      refine lv_iload hx hb d_MD_play_8 (lv_at hl 0 rfl) ?_
      refine lv_aload_n hx hb d_MD_play_10 rfl (lv_at hl 1 rfl) ?_
      refine qa_get (k := 22) (i := 0) (f := 21) (val := .ref (qa_a y 39 0)) E hC Nat.one_pos rfl rfl (by decide) f_MD_58 rfl rfl d_MD_play_11 ?_
      refine lv_iload_n hx hb d_MD_play_14 rfl (lv_at hl 2 rfl) ?_
      refine qa_ild (k := 39) (i := 0) (j := t) E hC Nat.one_pos rfl rfl rfl ht d_MD_play_15 ?_
      refine lv_icmp_ge hx hb d_MD_play_16 rfl (fun _ => ?_) (fun h9 => absurd (by rw [hq]; exact nI_le hp (by omega)) h9)
      refine lv_aload_n hx hb d_MD_play_307 rfl (lv_at hl 1 rfl) ?_
      refine qa_get (k := 22) (i := 0) (f := 25) (val := .int (u 22 0 25)) E hC Nat.one_pos rfl rfl (by decide) f_MD_129 rfl rfl d_MD_play_308 ?_
      refine lv_if_le hx hb d_MD_play_311 rfl (fun h9 => absurd h9 (by rw [i2]; exact nI_nle (by simp) (by omega))) (fun _ => ?_)
      refine lv_aload_n hx hb d_MD_play_314 rfl (lv_at hl 1 rfl) ?_
      refine qa_get (k := 22) (i := 0) (f := 24) (val := .ref (qa_a y 42 0)) E hC Nat.one_pos rfl rfl (by decide) f_MD_67 rfl rfl d_MD_play_315 ?_
      refine lv_aload_n hx hb d_MD_play_318 rfl (lv_at hl 1 rfl) ?_
      refine qa_get (k := 22) (i := 0) (f := 25) (val := .int (u 22 0 25)) E hC Nat.one_pos rfl rfl (by decide) f_MD_129 rfl rfl d_MD_play_319 ?_
      refine lv_iconst (v := 1) hx hb d_MD_play_322 (by decide) ?_
      refine lv_isub hx hb d_MD_play_323 ?_
      refine qa_ild (k := 42) (i := 0) (j := r.length) E hC Nat.one_pos rfl rfl e7 e6 d_MD_play_324 ?_
      refine lv_goto hx hb d_MD_play_325 rfl ?_
      exact qa_mret E hC hr hlocks ⟨e8, i4⟩ d_MD_play_330
  have loop : ∀ (d pp : Nat) (u : qa_M) (H : Heap) (locs : List Loc) (stk : List Int32) (ls : Array Slot), L ≤ pp + d → pp ≤ 24 → qa_C y u s H locs → (stk.length ≤ 6 ∧ u 22 0 25 = nI stk.length ∧ qm_st (u 42 0) stk ∧ (∀ c b f, ¬ (c = 22 ∧ f = 25) → c ≠ 42 → u c b f = v c b f) ∧ qm_ex (fun z => v 37 0 (12 * t + z)) (fun z => v 38 0 (12 * t + z)) (fun z => v 33 0 (IB + z)) (fun z => v 32 0 (WB + z)) (L - pp) pp 0 stk = qm_ex (fun z => v 37 0 (12 * t + z)) (fun z => v 38 0 (12 * t + z)) (fun z => v 33 0 (IB + z)) (fun z => v 32 0 (WB + z)) L 0 0 []) → lv_has ls 11 [(4, .int (nI pp)), (0, .ref (qa_a y 22 0)), (1, .int (nI t)), (2, .int (nI IB)), (3, .int (nI WB))] → W p l e (qa_R 2) s m [.ref (qa_a y 22 0), .int (nI t), .int (nI IB), .int (nI WB)].toArray below meth c H locs 0 0 (MQ below (va_Qi (fun r u => r = qm_ex (fun z => v 37 0 (12 * t + z)) (fun z => v 38 0 (12 * t + z)) (fun z => v 33 0 (IB + z)) (fun z => v 32 0 (WB + z)) L 0 0 [] ∧ ∀ c b f, ¬ (c = 22 ∧ f = 25) → c ≠ 42 → u c b f = v c b f) (fun u t => qa_W y u t) (qa_A y)) [.ref (qa_a y 22 0), .int (nI t), .int (nI IB), .int (nI WB)].toArray s 0 0 (qa_A y)) (F0 m 8 ls []) := by
    intro d
    induction d with
    | zero => exact fun pp u H locs stk ls h1 h2 h3 h4 h5 => fin pp u H locs stk ls h1 h2 h3 h4 h5
    | succ d ih =>
      intro pp u H locs stk ls hpd hp24 hC hI hl
      by_cases hz : pp < L
      · obtain ⟨i1, i2, i3, i4, i6⟩ := hI
        have hq : u 39 0 t = nI L := by rw [i4 39 0 t (by omega) (by omega)]; exact hL
        have hz12 : pp < 12 := by omega
        have hpt : 12 * t + pp < 48 := by omega
        have q37 : u 37 0 (12 * t + pp) = v 37 0 (12 * t + pp) := i4 _ _ _ (by omega) (by omega)
        have q38 : u 38 0 (12 * t + pp) = v 38 0 (12 * t + pp) := i4 _ _ _ (by omega) (by omega)
        have hok := hP pp hz
        obtain ⟨o, ho, eP⟩ := hok.1
        have i6s := i6.symm
        rcases (show o = 0 ∨ o = 1 ∨ o = 2 ∨ o = 3 ∨ o = 4 ∨ o = 5 ∨ o = 6 ∨ o = 7 ∨ o = 8 ∨ o = 9 by omega) with rfl | rfl | rfl | rfl | rfl | rfl | rfl | rfl | rfl | rfl
        · have eo : u 37 0 (12 * t + pp) = nI 0 := q37.trans eP
          rw [eP] at hok
          rcases stk with _ | ⟨b, _ | ⟨a, r⟩⟩
          · have j2 : u 22 0 25 = nI 0 := i2
            have ns : ¬ nI 0 < qm_nee (nI 0) := by decide
            refine lv_iload hx hb d_MD_play_8 (lv_at hl 0 rfl) ?_
            refine lv_aload_n hx hb d_MD_play_10 rfl (lv_at hl 1 rfl) ?_
            refine qa_get (k := 22) (i := 0) (f := 21) (val := .ref (qa_a y 39 0)) E hC Nat.one_pos rfl rfl (by decide) f_MD_58 rfl rfl d_MD_play_11 ?_
            refine lv_iload_n hx hb d_MD_play_14 rfl (lv_at hl 2 rfl) ?_
            refine qa_ild (k := 39) (i := 0) (j := t) E hC Nat.one_pos rfl rfl rfl ht d_MD_play_15 ?_
            refine lv_icmp_ge hx hb d_MD_play_16 rfl (fun h9 => absurd h9 (by rw [hq]; exact nI_ge hz (by omega))) (fun _ => ?_)
            refine lv_aload_n hx hb d_MD_play_19 rfl (lv_at hl 1 rfl) ?_
            refine qa_get (k := 22) (i := 0) (f := 19) (val := .ref (qa_a y 37 0)) E hC Nat.one_pos rfl rfl (by decide) f_MD_52 rfl rfl d_MD_play_20 ?_
            refine lv_bipush (v := 12) hx hb d_MD_play_23 (by decide) ?_
            refine lv_iload_n hx hb d_MD_play_25 rfl (lv_at hl 2 rfl) ?_
            refine lv_imul hx hb d_MD_play_26 ?_
            refine lv_iload hx hb d_MD_play_27 (lv_at hl 0 rfl) ?_
            refine lv_iadd hx hb d_MD_play_29 ?_
            refine qa_ild (k := 37) (i := 0) (j := ((12 * t) + pp)) E hC Nat.one_pos rfl rfl (qn_add (qn_mul rfl rfl) rfl) (show (12 * t) + pp < 48 by omega) d_MD_play_30 ?_
            rw [eo]
            refine lv_istore hx hb d_MD_play_31 hl (by decide) rfl (fun ls hl => ?_)
            have hl : lv_has ls 11 [(5, .int (nI 0)), (4, .int (nI pp)), (0, .ref (qa_a y 22 0)), (1, .int (nI t)), (2, .int (nI IB)), (3, .int (nI WB))] := hl
            refine lv_aload_n hx hb d_MD_play_33 rfl (lv_at hl 2 rfl) ?_
            refine qa_get (k := 22) (i := 0) (f := 20) (val := .ref (qa_a y 38 0)) E hC Nat.one_pos rfl rfl (by decide) f_MD_55 rfl rfl d_MD_play_34 ?_
            refine lv_bipush (v := 12) hx hb d_MD_play_37 (by decide) ?_
            refine lv_iload_n hx hb d_MD_play_39 rfl (lv_at hl 3 rfl) ?_
            refine lv_imul hx hb d_MD_play_40 ?_
            refine lv_iload hx hb d_MD_play_41 (lv_at hl 1 rfl) ?_
            refine lv_iadd hx hb d_MD_play_43 ?_
            refine qa_ild (k := 38) (i := 0) (j := ((12 * t) + pp)) E hC Nat.one_pos rfl rfl (qn_add (qn_mul rfl rfl) rfl) (show (12 * t) + pp < 48 by omega) d_MD_play_44 ?_
            refine lv_istore hx hb d_MD_play_45 hl (by decide) rfl (fun ls hl => ?_)
            have hl : lv_has ls 11 [(6, .int (u 38 0 ((12 * t) + pp))), (5, .int (nI 0)), (4, .int (nI pp)), (0, .ref (qa_a y 22 0)), (1, .int (nI t)), (2, .int (nI IB)), (3, .int (nI WB))] := hl
            refine lv_iinc (v := nI (pp + 1)) hx hb d_MD_play_47 hl (k := 2) rfl (nI_1 pp) (by decide) rfl (fun ls hl => ?_)
            have hl : lv_has ls 11 [(4, .int (nI (pp + 1))), (6, .int (u 38 0 ((12 * t) + pp))), (5, .int (nI 0)), (0, .ref (qa_a y 22 0)), (1, .int (nI t)), (2, .int (nI IB)), (3, .int (nI WB))] := hl
            refine lv_iload hx hb d_MD_play_50 (lv_at hl 2 rfl) ?_
            refine lv_iconst (v := 3) hx hb d_MD_play_52 (by decide) ?_
            refine lv_icmp_ge hx hb d_MD_play_53 rfl (fun h9 => absurd h9 (by decide)) (fun _ => ?_)
            refine lv_iconst (v := 0) hx hb d_MD_play_56 (by decide) ?_
            refine lv_goto hx hb d_MD_play_57 rfl ?_
            refine lv_istore hx hb d_MD_play_72 hl (by decide) rfl (fun ls hl => ?_)
            have hl : lv_has ls 11 [(7, .int 0), (4, .int (nI (pp + 1))), (6, .int (u 38 0 ((12 * t) + pp))), (5, .int (nI 0)), (0, .ref (qa_a y 22 0)), (1, .int (nI t)), (2, .int (nI IB)), (3, .int (nI WB))] := hl
            refine lv_aload_n hx hb d_MD_play_74 rfl (lv_at hl 4 rfl) ?_
            refine qa_get (k := 22) (i := 0) (f := 25) (val := .int (u 22 0 25)) E hC Nat.one_pos rfl rfl (by decide) f_MD_129 rfl rfl d_MD_play_75 ?_
            refine lv_iload hx hb d_MD_play_78 (lv_at hl 0 rfl) ?_
            refine lv_icmp_ge hx hb d_MD_play_80 rfl (fun _ => ?_) (fun h9 => absurd (by rw [j2]; decide) h9)
            refine lv_aload_n hx hb d_MD_play_86 rfl (lv_at hl 4 rfl) ?_
            refine qa_get (k := 22) (i := 0) (f := 25) (val := .int (u 22 0 25)) E hC Nat.one_pos rfl rfl (by decide) f_MD_129 rfl rfl d_MD_play_87 ?_
            refine lv_if_le hx hb d_MD_play_90 rfl (fun _ => ?_) (fun h9 => absurd (by rw [j2]; decide) h9)
            refine lv_iconst (v := 0) hx hb d_MD_play_107 (by decide) ?_
            refine lv_istore hx hb d_MD_play_108 hl (by decide) rfl (fun ls hl => ?_)
            have hl : lv_has ls 11 [(8, .int 0), (7, .int 0), (4, .int (nI (pp + 1))), (6, .int (u 38 0 ((12 * t) + pp))), (5, .int (nI 0)), (0, .ref (qa_a y 22 0)), (1, .int (nI t)), (2, .int (nI IB)), (3, .int (nI WB))] := hl
            refine lv_aload_n hx hb d_MD_play_110 rfl (lv_at hl 5 rfl) ?_
            refine qa_get (k := 22) (i := 0) (f := 25) (val := .int (u 22 0 25)) E hC Nat.one_pos rfl rfl (by decide) f_MD_129 rfl rfl d_MD_play_111 ?_
            refine lv_iconst (v := 1) hx hb d_MD_play_114 (by decide) ?_
            refine lv_icmp_le hx hb d_MD_play_115 rfl (fun _ => ?_) (fun h9 => absurd (by rw [j2]; decide) h9)
            refine lv_iconst (v := 0) hx hb d_MD_play_132 (by decide) ?_
            refine lv_istore hx hb d_MD_play_133 hl (by decide) rfl (fun ls hl => ?_)
            have hl : lv_has ls 11 [(9, .int 0), (8, .int 0), (7, .int 0), (4, .int (nI (pp + 1))), (6, .int (u 38 0 ((12 * t) + pp))), (5, .int (nI 0)), (0, .ref (qa_a y 22 0)), (1, .int (nI t)), (2, .int (nI IB)), (3, .int (nI WB))] := hl
            refine lv_iload hx hb d_MD_play_135 (lv_at hl 5 rfl) ?_
            refine lv_bipush (v := 6) hx hb d_MD_play_137 (by decide) ?_
            refine lv_icmp_ne hx hb d_MD_play_139 rfl (fun _ => ?_) (fun h9 => absurd h9 (by decide))
            refine lv_iload hx hb d_MD_play_150 (lv_at hl 5 rfl) ?_
            refine lv_iconst (v := 3) hx hb d_MD_play_152 (by decide) ?_
            refine lv_icmp_lt hx hb d_MD_play_153 rfl (fun _ => ?_) (fun h9 => absurd (by decide) h9)
            refine lv_aload_n hx hb d_MD_play_163 rfl (lv_at hl 6 rfl) ?_
            refine qa_get (k := 22) (i := 0) (f := 25) (val := .int (u 22 0 25)) E hC Nat.one_pos rfl rfl (by decide) f_MD_129 rfl rfl d_MD_play_164 ?_
            refine lv_bipush (v := 6) hx hb d_MD_play_167 (by decide) ?_
            refine lv_icmp_ne hx hb d_MD_play_169 rfl (fun _ => ?_) (fun h9 => absurd h9 (by rw [j2]; decide))
            refine lv_iload hx hb d_MD_play_175 (lv_at hl 5 rfl) ?_
            refine lv_bipush (v := 8) hx hb d_MD_play_177 (by decide) ?_
            refine lv_icmp_ne hx hb d_MD_play_179 rfl (fun _ => ?_) (fun h9 => absurd h9 (by decide))
            refine lv_iload hx hb d_MD_play_212 (lv_at hl 2 rfl) ?_
            refine lv_iconst (v := 2) hx hb d_MD_play_214 (by decide) ?_
            refine lv_icmp_ne hx hb d_MD_play_215 rfl (fun _ => ?_) (fun h9 => absurd h9 (by decide))
            refine lv_iload hx hb d_MD_play_248 (lv_at hl 5 rfl) ?_
            refine lv_if_ne hx hb d_MD_play_250 rfl (fun h9 => absurd (by decide) h9) (fun _ => ?_)
            refine lv_iload hx hb d_MD_play_253 (lv_at hl 4 rfl) ?_
            refine lv_goto hx hb d_MD_play_255 rfl ?_
            refine lv_istore hx hb d_MD_play_296 hl (by decide) rfl (fun ls hl => ?_)
            have hl : lv_has ls 11 [(10, .int (u 38 0 ((12 * t) + pp))), (9, .int 0), (8, .int 0), (7, .int 0), (4, .int (nI (pp + 1))), (6, .int (u 38 0 ((12 * t) + pp))), (5, .int (nI 0)), (0, .ref (qa_a y 22 0)), (1, .int (nI t)), (2, .int (nI IB)), (3, .int (nI WB))] := hl
            refine lv_aload_n hx hb d_MD_play_298 rfl (lv_at hl 7 rfl) ?_
            refine lv_iload hx hb d_MD_play_299 (lv_at hl 0 rfl) ?_
            refine qa_mVv (k := 22) (i := 0) (As := [.int (u 38 0 ((12 * t) + pp))]) E hC (c_MD_push l y u 0 (u 38 0 ((12 * t) + pp)) j2 (by decide)) Nat.one_pos rfl rfl k_MD_138 (qa_fitR (by decide) (by decide)) rfl hl.1 rfl (Nat.le_of_ble_eq_true rfl) d_MD_play_301 (fun u1 H locs hp1 hC => ?_)
            refine lv_goto hx hb d_MD_play_304 rfl ?_
            refine ih (pp + 1) u1 H locs ((u 38 0 (12 * t + pp)) :: []) ls (by omega) (by omega) hC ⟨?_, ?_, ⟨?_, ?_⟩, ?_, ?_⟩ (lv_sub hl [4, 7, 8, 9, 10] rfl)
            · show 0 + 1 ≤ 6; omega
            · rw [hp1]; exact qa_up_s
            · rw [hp1, qa_up_kk (by decide)]; exact qa_up_s
            · trivial
            · intro c b8 f h1 h2; rw [hp1, qa_up_x (fun q9 => h1 ⟨q9.1, q9.2.2⟩), qa_up_k h2]; exact i4 c b8 f h1 h2
            · rw [i6s]; exact (qm_ex_f (stk := []) hz eP (show qm_rf (nI 0) 0 0 = 0 from qm_rf_ok ns (fun q9 => absurd q9 (by decide)) (fun _ => show 0 < 6 by decide)) (by decide) (by decide) (qm_fe_0.trans q38.symm)).symm
          · have j2 : u 22 0 25 = nI 1 := i2
            have m1 : u 22 0 25 - 1 = nI 0 := by rw [j2]; exact nI_pred _
            have eb : u 42 0 0 = b := i3.1
            have ns : ¬ nI 1 < qm_nee (nI 0) := by decide
            refine lv_iload hx hb d_MD_play_8 (lv_at hl 0 rfl) ?_
            refine lv_aload_n hx hb d_MD_play_10 rfl (lv_at hl 1 rfl) ?_
            refine qa_get (k := 22) (i := 0) (f := 21) (val := .ref (qa_a y 39 0)) E hC Nat.one_pos rfl rfl (by decide) f_MD_58 rfl rfl d_MD_play_11 ?_
            refine lv_iload_n hx hb d_MD_play_14 rfl (lv_at hl 2 rfl) ?_
            refine qa_ild (k := 39) (i := 0) (j := t) E hC Nat.one_pos rfl rfl rfl ht d_MD_play_15 ?_
            refine lv_icmp_ge hx hb d_MD_play_16 rfl (fun h9 => absurd h9 (by rw [hq]; exact nI_ge hz (by omega))) (fun _ => ?_)
            refine lv_aload_n hx hb d_MD_play_19 rfl (lv_at hl 1 rfl) ?_
            refine qa_get (k := 22) (i := 0) (f := 19) (val := .ref (qa_a y 37 0)) E hC Nat.one_pos rfl rfl (by decide) f_MD_52 rfl rfl d_MD_play_20 ?_
            refine lv_bipush (v := 12) hx hb d_MD_play_23 (by decide) ?_
            refine lv_iload_n hx hb d_MD_play_25 rfl (lv_at hl 2 rfl) ?_
            refine lv_imul hx hb d_MD_play_26 ?_
            refine lv_iload hx hb d_MD_play_27 (lv_at hl 0 rfl) ?_
            refine lv_iadd hx hb d_MD_play_29 ?_
            refine qa_ild (k := 37) (i := 0) (j := ((12 * t) + pp)) E hC Nat.one_pos rfl rfl (qn_add (qn_mul rfl rfl) rfl) (show (12 * t) + pp < 48 by omega) d_MD_play_30 ?_
            rw [eo]
            refine lv_istore hx hb d_MD_play_31 hl (by decide) rfl (fun ls hl => ?_)
            have hl : lv_has ls 11 [(5, .int (nI 0)), (4, .int (nI pp)), (0, .ref (qa_a y 22 0)), (1, .int (nI t)), (2, .int (nI IB)), (3, .int (nI WB))] := hl
            refine lv_aload_n hx hb d_MD_play_33 rfl (lv_at hl 2 rfl) ?_
            refine qa_get (k := 22) (i := 0) (f := 20) (val := .ref (qa_a y 38 0)) E hC Nat.one_pos rfl rfl (by decide) f_MD_55 rfl rfl d_MD_play_34 ?_
            refine lv_bipush (v := 12) hx hb d_MD_play_37 (by decide) ?_
            refine lv_iload_n hx hb d_MD_play_39 rfl (lv_at hl 3 rfl) ?_
            refine lv_imul hx hb d_MD_play_40 ?_
            refine lv_iload hx hb d_MD_play_41 (lv_at hl 1 rfl) ?_
            refine lv_iadd hx hb d_MD_play_43 ?_
            refine qa_ild (k := 38) (i := 0) (j := ((12 * t) + pp)) E hC Nat.one_pos rfl rfl (qn_add (qn_mul rfl rfl) rfl) (show (12 * t) + pp < 48 by omega) d_MD_play_44 ?_
            refine lv_istore hx hb d_MD_play_45 hl (by decide) rfl (fun ls hl => ?_)
            have hl : lv_has ls 11 [(6, .int (u 38 0 ((12 * t) + pp))), (5, .int (nI 0)), (4, .int (nI pp)), (0, .ref (qa_a y 22 0)), (1, .int (nI t)), (2, .int (nI IB)), (3, .int (nI WB))] := hl
            refine lv_iinc (v := nI (pp + 1)) hx hb d_MD_play_47 hl (k := 2) rfl (nI_1 pp) (by decide) rfl (fun ls hl => ?_)
            have hl : lv_has ls 11 [(4, .int (nI (pp + 1))), (6, .int (u 38 0 ((12 * t) + pp))), (5, .int (nI 0)), (0, .ref (qa_a y 22 0)), (1, .int (nI t)), (2, .int (nI IB)), (3, .int (nI WB))] := hl
            refine lv_iload hx hb d_MD_play_50 (lv_at hl 2 rfl) ?_
            refine lv_iconst (v := 3) hx hb d_MD_play_52 (by decide) ?_
            refine lv_icmp_ge hx hb d_MD_play_53 rfl (fun h9 => absurd h9 (by decide)) (fun _ => ?_)
            refine lv_iconst (v := 0) hx hb d_MD_play_56 (by decide) ?_
            refine lv_goto hx hb d_MD_play_57 rfl ?_
            refine lv_istore hx hb d_MD_play_72 hl (by decide) rfl (fun ls hl => ?_)
            have hl : lv_has ls 11 [(7, .int 0), (4, .int (nI (pp + 1))), (6, .int (u 38 0 ((12 * t) + pp))), (5, .int (nI 0)), (0, .ref (qa_a y 22 0)), (1, .int (nI t)), (2, .int (nI IB)), (3, .int (nI WB))] := hl
            refine lv_aload_n hx hb d_MD_play_74 rfl (lv_at hl 4 rfl) ?_
            refine qa_get (k := 22) (i := 0) (f := 25) (val := .int (u 22 0 25)) E hC Nat.one_pos rfl rfl (by decide) f_MD_129 rfl rfl d_MD_play_75 ?_
            refine lv_iload hx hb d_MD_play_78 (lv_at hl 0 rfl) ?_
            refine lv_icmp_ge hx hb d_MD_play_80 rfl (fun _ => ?_) (fun h9 => absurd (by rw [j2]; decide) h9)
            refine lv_aload_n hx hb d_MD_play_86 rfl (lv_at hl 4 rfl) ?_
            refine qa_get (k := 22) (i := 0) (f := 25) (val := .int (u 22 0 25)) E hC Nat.one_pos rfl rfl (by decide) f_MD_129 rfl rfl d_MD_play_87 ?_
            refine lv_if_le hx hb d_MD_play_90 rfl (fun h9 => absurd h9 (by rw [j2]; exact nI_nle (by omega) (by omega))) (fun _ => ?_)
            refine lv_aload_n hx hb d_MD_play_93 rfl (lv_at hl 4 rfl) ?_
            refine qa_get (k := 22) (i := 0) (f := 24) (val := .ref (qa_a y 42 0)) E hC Nat.one_pos rfl rfl (by decide) f_MD_67 rfl rfl d_MD_play_94 ?_
            refine lv_aload_n hx hb d_MD_play_97 rfl (lv_at hl 4 rfl) ?_
            refine qa_get (k := 22) (i := 0) (f := 25) (val := .int (u 22 0 25)) E hC Nat.one_pos rfl rfl (by decide) f_MD_129 rfl rfl d_MD_play_98 ?_
            refine lv_iconst (v := 1) hx hb d_MD_play_101 (by decide) ?_
            refine lv_isub hx hb d_MD_play_102 ?_
            refine qa_ild (k := 42) (i := 0) (j := 0) E hC Nat.one_pos rfl rfl m1 (show 0 < 6 by decide) d_MD_play_103 ?_
            rw [eb]
            refine lv_goto hx hb d_MD_play_104 rfl ?_
            refine lv_istore hx hb d_MD_play_108 hl (by decide) rfl (fun ls hl => ?_)
            have hl : lv_has ls 11 [(8, .int b), (7, .int 0), (4, .int (nI (pp + 1))), (6, .int (u 38 0 ((12 * t) + pp))), (5, .int (nI 0)), (0, .ref (qa_a y 22 0)), (1, .int (nI t)), (2, .int (nI IB)), (3, .int (nI WB))] := hl
            refine lv_aload_n hx hb d_MD_play_110 rfl (lv_at hl 5 rfl) ?_
            refine qa_get (k := 22) (i := 0) (f := 25) (val := .int (u 22 0 25)) E hC Nat.one_pos rfl rfl (by decide) f_MD_129 rfl rfl d_MD_play_111 ?_
            refine lv_iconst (v := 1) hx hb d_MD_play_114 (by decide) ?_
            refine lv_icmp_le hx hb d_MD_play_115 rfl (fun _ => ?_) (fun h9 => absurd (by rw [j2]; decide) h9)
            refine lv_iconst (v := 0) hx hb d_MD_play_132 (by decide) ?_
            refine lv_istore hx hb d_MD_play_133 hl (by decide) rfl (fun ls hl => ?_)
            have hl : lv_has ls 11 [(9, .int 0), (8, .int b), (7, .int 0), (4, .int (nI (pp + 1))), (6, .int (u 38 0 ((12 * t) + pp))), (5, .int (nI 0)), (0, .ref (qa_a y 22 0)), (1, .int (nI t)), (2, .int (nI IB)), (3, .int (nI WB))] := hl
            refine lv_iload hx hb d_MD_play_135 (lv_at hl 5 rfl) ?_
            refine lv_bipush (v := 6) hx hb d_MD_play_137 (by decide) ?_
            refine lv_icmp_ne hx hb d_MD_play_139 rfl (fun _ => ?_) (fun h9 => absurd h9 (by decide))
            refine lv_iload hx hb d_MD_play_150 (lv_at hl 5 rfl) ?_
            refine lv_iconst (v := 3) hx hb d_MD_play_152 (by decide) ?_
            refine lv_icmp_lt hx hb d_MD_play_153 rfl (fun _ => ?_) (fun h9 => absurd (by decide) h9)
            refine lv_aload_n hx hb d_MD_play_163 rfl (lv_at hl 6 rfl) ?_
            refine qa_get (k := 22) (i := 0) (f := 25) (val := .int (u 22 0 25)) E hC Nat.one_pos rfl rfl (by decide) f_MD_129 rfl rfl d_MD_play_164 ?_
            refine lv_bipush (v := 6) hx hb d_MD_play_167 (by decide) ?_
            refine lv_icmp_ne hx hb d_MD_play_169 rfl (fun _ => ?_) (fun h9 => absurd h9 (by rw [j2]; decide))
            refine lv_iload hx hb d_MD_play_175 (lv_at hl 5 rfl) ?_
            refine lv_bipush (v := 8) hx hb d_MD_play_177 (by decide) ?_
            refine lv_icmp_ne hx hb d_MD_play_179 rfl (fun _ => ?_) (fun h9 => absurd h9 (by decide))
            refine lv_iload hx hb d_MD_play_212 (lv_at hl 2 rfl) ?_
            refine lv_iconst (v := 2) hx hb d_MD_play_214 (by decide) ?_
            refine lv_icmp_ne hx hb d_MD_play_215 rfl (fun _ => ?_) (fun h9 => absurd h9 (by decide))
            refine lv_iload hx hb d_MD_play_248 (lv_at hl 5 rfl) ?_
            refine lv_if_ne hx hb d_MD_play_250 rfl (fun h9 => absurd (by decide) h9) (fun _ => ?_)
            refine lv_iload hx hb d_MD_play_253 (lv_at hl 4 rfl) ?_
            refine lv_goto hx hb d_MD_play_255 rfl ?_
            refine lv_istore hx hb d_MD_play_296 hl (by decide) rfl (fun ls hl => ?_)
            have hl : lv_has ls 11 [(10, .int (u 38 0 ((12 * t) + pp))), (9, .int 0), (8, .int b), (7, .int 0), (4, .int (nI (pp + 1))), (6, .int (u 38 0 ((12 * t) + pp))), (5, .int (nI 0)), (0, .ref (qa_a y 22 0)), (1, .int (nI t)), (2, .int (nI IB)), (3, .int (nI WB))] := hl
            refine lv_aload_n hx hb d_MD_play_298 rfl (lv_at hl 7 rfl) ?_
            refine lv_iload hx hb d_MD_play_299 (lv_at hl 0 rfl) ?_
            refine qa_mVv (k := 22) (i := 0) (As := [.int (u 38 0 ((12 * t) + pp))]) E hC (c_MD_push l y u 1 (u 38 0 ((12 * t) + pp)) j2 (by decide)) Nat.one_pos rfl rfl k_MD_138 (qa_fitR (by decide) (by decide)) rfl hl.1 rfl (Nat.le_of_ble_eq_true rfl) d_MD_play_301 (fun u2 H locs hp2 hC => ?_)
            refine lv_goto hx hb d_MD_play_304 rfl ?_
            refine ih (pp + 1) u2 H locs ((u 38 0 (12 * t + pp)) :: [b]) ls (by omega) (by omega) hC ⟨?_, ?_, ⟨?_, ?_⟩, ?_, ?_⟩ (lv_sub hl [4, 7, 8, 9, 10] rfl)
            · show 1 + 1 ≤ 6; omega
            · rw [hp2]; exact qa_up_s
            · rw [hp2, qa_up_kk (by decide)]; exact qa_up_s
            · refine qm_st_n i3 (fun q hq => ?_)
              have hq : q < 1 := hq
              rw [hp2, qa_up_kk (by decide), qa_up_f (by omega)]
            · intro c b8 f h1 h2; rw [hp2, qa_up_x (fun q9 => h1 ⟨q9.1, q9.2.2⟩), qa_up_k h2]; exact i4 c b8 f h1 h2
            · rw [i6s]; exact (qm_ex_f (stk := [b]) hz eP (show qm_rf (nI 0) 1 b = 0 from qm_rf_ok ns (fun q9 => absurd q9 (by decide)) (fun _ => show 1 < 6 by decide)) (by decide) (by decide) (qm_fe_0.trans q38.symm)).symm
          · have j2 : u 22 0 25 = nI (r.length + 2) := i2
            have j1 : r.length + 2 ≤ 6 := i1
            have m1 : u 22 0 25 - 1 = nI (r.length + 1) := by rw [j2]; exact nI_pred _
            have eb : u 42 0 (r.length + 1) = b := i3.1
            have m2 : u 22 0 25 - 2 = nI r.length := by rw [j2]; exact pk_sub (a := r.length + 2) (b := 2) (by omega)
            have ea : u 42 0 r.length = a := i3.2.1
            have ns : ¬ nI (r.length + 2) < qm_nee (nI 0) := by rw [show qm_nee (nI 0) = nI 0 from by decide]; exact nI_nlt (by omega) (by omega)
            refine lv_iload hx hb d_MD_play_8 (lv_at hl 0 rfl) ?_
            refine lv_aload_n hx hb d_MD_play_10 rfl (lv_at hl 1 rfl) ?_
            refine qa_get (k := 22) (i := 0) (f := 21) (val := .ref (qa_a y 39 0)) E hC Nat.one_pos rfl rfl (by decide) f_MD_58 rfl rfl d_MD_play_11 ?_
            refine lv_iload_n hx hb d_MD_play_14 rfl (lv_at hl 2 rfl) ?_
            refine qa_ild (k := 39) (i := 0) (j := t) E hC Nat.one_pos rfl rfl rfl ht d_MD_play_15 ?_
            refine lv_icmp_ge hx hb d_MD_play_16 rfl (fun h9 => absurd h9 (by rw [hq]; exact nI_ge hz (by omega))) (fun _ => ?_)
            refine lv_aload_n hx hb d_MD_play_19 rfl (lv_at hl 1 rfl) ?_
            refine qa_get (k := 22) (i := 0) (f := 19) (val := .ref (qa_a y 37 0)) E hC Nat.one_pos rfl rfl (by decide) f_MD_52 rfl rfl d_MD_play_20 ?_
            refine lv_bipush (v := 12) hx hb d_MD_play_23 (by decide) ?_
            refine lv_iload_n hx hb d_MD_play_25 rfl (lv_at hl 2 rfl) ?_
            refine lv_imul hx hb d_MD_play_26 ?_
            refine lv_iload hx hb d_MD_play_27 (lv_at hl 0 rfl) ?_
            refine lv_iadd hx hb d_MD_play_29 ?_
            refine qa_ild (k := 37) (i := 0) (j := ((12 * t) + pp)) E hC Nat.one_pos rfl rfl (qn_add (qn_mul rfl rfl) rfl) (show (12 * t) + pp < 48 by omega) d_MD_play_30 ?_
            rw [eo]
            refine lv_istore hx hb d_MD_play_31 hl (by decide) rfl (fun ls hl => ?_)
            have hl : lv_has ls 11 [(5, .int (nI 0)), (4, .int (nI pp)), (0, .ref (qa_a y 22 0)), (1, .int (nI t)), (2, .int (nI IB)), (3, .int (nI WB))] := hl
            refine lv_aload_n hx hb d_MD_play_33 rfl (lv_at hl 2 rfl) ?_
            refine qa_get (k := 22) (i := 0) (f := 20) (val := .ref (qa_a y 38 0)) E hC Nat.one_pos rfl rfl (by decide) f_MD_55 rfl rfl d_MD_play_34 ?_
            refine lv_bipush (v := 12) hx hb d_MD_play_37 (by decide) ?_
            refine lv_iload_n hx hb d_MD_play_39 rfl (lv_at hl 3 rfl) ?_
            refine lv_imul hx hb d_MD_play_40 ?_
            refine lv_iload hx hb d_MD_play_41 (lv_at hl 1 rfl) ?_
            refine lv_iadd hx hb d_MD_play_43 ?_
            refine qa_ild (k := 38) (i := 0) (j := ((12 * t) + pp)) E hC Nat.one_pos rfl rfl (qn_add (qn_mul rfl rfl) rfl) (show (12 * t) + pp < 48 by omega) d_MD_play_44 ?_
            refine lv_istore hx hb d_MD_play_45 hl (by decide) rfl (fun ls hl => ?_)
            have hl : lv_has ls 11 [(6, .int (u 38 0 ((12 * t) + pp))), (5, .int (nI 0)), (4, .int (nI pp)), (0, .ref (qa_a y 22 0)), (1, .int (nI t)), (2, .int (nI IB)), (3, .int (nI WB))] := hl
            refine lv_iinc (v := nI (pp + 1)) hx hb d_MD_play_47 hl (k := 2) rfl (nI_1 pp) (by decide) rfl (fun ls hl => ?_)
            have hl : lv_has ls 11 [(4, .int (nI (pp + 1))), (6, .int (u 38 0 ((12 * t) + pp))), (5, .int (nI 0)), (0, .ref (qa_a y 22 0)), (1, .int (nI t)), (2, .int (nI IB)), (3, .int (nI WB))] := hl
            refine lv_iload hx hb d_MD_play_50 (lv_at hl 2 rfl) ?_
            refine lv_iconst (v := 3) hx hb d_MD_play_52 (by decide) ?_
            refine lv_icmp_ge hx hb d_MD_play_53 rfl (fun h9 => absurd h9 (by decide)) (fun _ => ?_)
            refine lv_iconst (v := 0) hx hb d_MD_play_56 (by decide) ?_
            refine lv_goto hx hb d_MD_play_57 rfl ?_
            refine lv_istore hx hb d_MD_play_72 hl (by decide) rfl (fun ls hl => ?_)
            have hl : lv_has ls 11 [(7, .int 0), (4, .int (nI (pp + 1))), (6, .int (u 38 0 ((12 * t) + pp))), (5, .int (nI 0)), (0, .ref (qa_a y 22 0)), (1, .int (nI t)), (2, .int (nI IB)), (3, .int (nI WB))] := hl
            refine lv_aload_n hx hb d_MD_play_74 rfl (lv_at hl 4 rfl) ?_
            refine qa_get (k := 22) (i := 0) (f := 25) (val := .int (u 22 0 25)) E hC Nat.one_pos rfl rfl (by decide) f_MD_129 rfl rfl d_MD_play_75 ?_
            refine lv_iload hx hb d_MD_play_78 (lv_at hl 0 rfl) ?_
            refine lv_icmp_ge hx hb d_MD_play_80 rfl (fun _ => ?_) (fun h9 => absurd (by rw [j2]; exact nI_le (a := 0) (by omega) (by omega)) h9)
            refine lv_aload_n hx hb d_MD_play_86 rfl (lv_at hl 4 rfl) ?_
            refine qa_get (k := 22) (i := 0) (f := 25) (val := .int (u 22 0 25)) E hC Nat.one_pos rfl rfl (by decide) f_MD_129 rfl rfl d_MD_play_87 ?_
            refine lv_if_le hx hb d_MD_play_90 rfl (fun h9 => absurd h9 (by rw [j2]; exact nI_nle (by omega) (by omega))) (fun _ => ?_)
            refine lv_aload_n hx hb d_MD_play_93 rfl (lv_at hl 4 rfl) ?_
            refine qa_get (k := 22) (i := 0) (f := 24) (val := .ref (qa_a y 42 0)) E hC Nat.one_pos rfl rfl (by decide) f_MD_67 rfl rfl d_MD_play_94 ?_
            refine lv_aload_n hx hb d_MD_play_97 rfl (lv_at hl 4 rfl) ?_
            refine qa_get (k := 22) (i := 0) (f := 25) (val := .int (u 22 0 25)) E hC Nat.one_pos rfl rfl (by decide) f_MD_129 rfl rfl d_MD_play_98 ?_
            refine lv_iconst (v := 1) hx hb d_MD_play_101 (by decide) ?_
            refine lv_isub hx hb d_MD_play_102 ?_
            refine qa_ild (k := 42) (i := 0) (j := (r.length + 1)) E hC Nat.one_pos rfl rfl m1 (show r.length + 1 < 6 by omega) d_MD_play_103 ?_
            rw [eb]
            refine lv_goto hx hb d_MD_play_104 rfl ?_
            refine lv_istore hx hb d_MD_play_108 hl (by decide) rfl (fun ls hl => ?_)
            have hl : lv_has ls 11 [(8, .int b), (7, .int 0), (4, .int (nI (pp + 1))), (6, .int (u 38 0 ((12 * t) + pp))), (5, .int (nI 0)), (0, .ref (qa_a y 22 0)), (1, .int (nI t)), (2, .int (nI IB)), (3, .int (nI WB))] := hl
            refine lv_aload_n hx hb d_MD_play_110 rfl (lv_at hl 5 rfl) ?_
            refine qa_get (k := 22) (i := 0) (f := 25) (val := .int (u 22 0 25)) E hC Nat.one_pos rfl rfl (by decide) f_MD_129 rfl rfl d_MD_play_111 ?_
            refine lv_iconst (v := 1) hx hb d_MD_play_114 (by decide) ?_
            refine lv_icmp_le hx hb d_MD_play_115 rfl (fun h9 => absurd h9 (by rw [j2]; exact nI_ge (b := (r.length + 2)) (a := 1) (by omega) (by omega))) (fun _ => ?_)
            refine lv_aload_n hx hb d_MD_play_118 rfl (lv_at hl 5 rfl) ?_
            refine qa_get (k := 22) (i := 0) (f := 24) (val := .ref (qa_a y 42 0)) E hC Nat.one_pos rfl rfl (by decide) f_MD_67 rfl rfl d_MD_play_119 ?_
            refine lv_aload_n hx hb d_MD_play_122 rfl (lv_at hl 5 rfl) ?_
            refine qa_get (k := 22) (i := 0) (f := 25) (val := .int (u 22 0 25)) E hC Nat.one_pos rfl rfl (by decide) f_MD_129 rfl rfl d_MD_play_123 ?_
            refine lv_iconst (v := 2) hx hb d_MD_play_126 (by decide) ?_
            refine lv_isub hx hb d_MD_play_127 ?_
            refine qa_ild (k := 42) (i := 0) (j := r.length) E hC Nat.one_pos rfl rfl m2 (show r.length < 6 by omega) d_MD_play_128 ?_
            rw [ea]
            refine lv_goto hx hb d_MD_play_129 rfl ?_
            refine lv_istore hx hb d_MD_play_133 hl (by decide) rfl (fun ls hl => ?_)
            have hl : lv_has ls 11 [(9, .int a), (8, .int b), (7, .int 0), (4, .int (nI (pp + 1))), (6, .int (u 38 0 ((12 * t) + pp))), (5, .int (nI 0)), (0, .ref (qa_a y 22 0)), (1, .int (nI t)), (2, .int (nI IB)), (3, .int (nI WB))] := hl
            refine lv_iload hx hb d_MD_play_135 (lv_at hl 5 rfl) ?_
            refine lv_bipush (v := 6) hx hb d_MD_play_137 (by decide) ?_
            refine lv_icmp_ne hx hb d_MD_play_139 rfl (fun _ => ?_) (fun h9 => absurd h9 (by decide))
            refine lv_iload hx hb d_MD_play_150 (lv_at hl 5 rfl) ?_
            refine lv_iconst (v := 3) hx hb d_MD_play_152 (by decide) ?_
            refine lv_icmp_lt hx hb d_MD_play_153 rfl (fun _ => ?_) (fun h9 => absurd (by decide) h9)
            refine lv_aload_n hx hb d_MD_play_163 rfl (lv_at hl 6 rfl) ?_
            refine qa_get (k := 22) (i := 0) (f := 25) (val := .int (u 22 0 25)) E hC Nat.one_pos rfl rfl (by decide) f_MD_129 rfl rfl d_MD_play_164 ?_
            refine lv_bipush (v := 6) hx hb d_MD_play_167 (by decide) ?_
            refine lv_icmp_ne hx hb d_MD_play_169 rfl (fun h169 => ?_) (fun h169 => ?_)
            · refine lv_iload hx hb d_MD_play_175 (lv_at hl 5 rfl) ?_
              refine lv_bipush (v := 8) hx hb d_MD_play_177 (by decide) ?_
              refine lv_icmp_ne hx hb d_MD_play_179 rfl (fun _ => ?_) (fun h9 => absurd h9 (by decide))
              refine lv_iload hx hb d_MD_play_212 (lv_at hl 2 rfl) ?_
              refine lv_iconst (v := 2) hx hb d_MD_play_214 (by decide) ?_
              refine lv_icmp_ne hx hb d_MD_play_215 rfl (fun _ => ?_) (fun h9 => absurd h9 (by decide))
              refine lv_iload hx hb d_MD_play_248 (lv_at hl 5 rfl) ?_
              refine lv_if_ne hx hb d_MD_play_250 rfl (fun h9 => absurd (by decide) h9) (fun _ => ?_)
              refine lv_iload hx hb d_MD_play_253 (lv_at hl 4 rfl) ?_
              refine lv_goto hx hb d_MD_play_255 rfl ?_
              refine lv_istore hx hb d_MD_play_296 hl (by decide) rfl (fun ls hl => ?_)
              have hl : lv_has ls 11 [(10, .int (u 38 0 ((12 * t) + pp))), (9, .int a), (8, .int b), (7, .int 0), (4, .int (nI (pp + 1))), (6, .int (u 38 0 ((12 * t) + pp))), (5, .int (nI 0)), (0, .ref (qa_a y 22 0)), (1, .int (nI t)), (2, .int (nI IB)), (3, .int (nI WB))] := hl
              refine lv_aload_n hx hb d_MD_play_298 rfl (lv_at hl 7 rfl) ?_
              refine lv_iload hx hb d_MD_play_299 (lv_at hl 0 rfl) ?_
              have d6 : r.length + 2 < 6 := by
                have z9 : ¬ nI (r.length + 2) = nI 6 := by rw [← j2]; exact h169
                rw [nI_eq (by omega) (by omega)] at z9
                omega
              refine qa_mVv (k := 22) (i := 0) (As := [.int (u 38 0 ((12 * t) + pp))]) E hC (c_MD_push l y u (r.length + 2) (u 38 0 ((12 * t) + pp)) j2 d6) Nat.one_pos rfl rfl k_MD_138 (qa_fitR (by decide) (by decide)) rfl hl.1 rfl (Nat.le_of_ble_eq_true rfl) d_MD_play_301 (fun u3 H locs hp3 hC => ?_)
              refine lv_goto hx hb d_MD_play_304 rfl ?_
              refine ih (pp + 1) u3 H locs ((u 38 0 (12 * t + pp)) :: (b :: a :: r)) ls (by omega) (by omega) hC ⟨?_, ?_, ⟨?_, ?_⟩, ?_, ?_⟩ (lv_sub hl [4, 7, 8, 9, 10] rfl)
              · show (r.length + 2) + 1 ≤ 6; omega
              · rw [hp3]; exact qa_up_s
              · rw [hp3, qa_up_kk (by decide)]; exact qa_up_s
              · refine qm_st_n i3 (fun q hq => ?_)
                have hq : q < (r.length + 2) := hq
                rw [hp3, qa_up_kk (by decide), qa_up_f (by omega)]
              · intro c b8 f h1 h2; rw [hp3, qa_up_x (fun q9 => h1 ⟨q9.1, q9.2.2⟩), qa_up_k h2]; exact i4 c b8 f h1 h2
              · rw [i6s]; exact (qm_ex_f (stk := (b :: a :: r)) hz eP (show qm_rf (nI 0) (r.length + 2) b = 0 from qm_rf_ok ns (fun q9 => absurd q9 (by decide)) (fun _ => d6)) (by decide) (by decide) (qm_fe_0.trans q38.symm)).symm
            · refine lv_ldc (v := -1000000002) hx hb hown (hts _ k_MD_134) d_MD_play_172 ?_
              exact qa_mret E hC hr hlocks ⟨by rw [i6s]; exact (qm_ex_r (stk := (b :: a :: r)) hz eP (show qm_rf (nI 0) (r.length + 2) b = -1000000002 from qm_rf_dp ns (by decide) (by decide) (by rw [← j2]; exact h169)) (by decide)).symm, i4⟩ d_MD_play_174
        · have eo : u 37 0 (12 * t + pp) = nI 1 := q37.trans eP
          rw [eP] at hok
          obtain ⟨j, hj, eX⟩ := hok.2.1 (by decide)
          rcases stk with _ | ⟨b, _ | ⟨a, r⟩⟩
          · have j2 : u 22 0 25 = nI 0 := i2
            have ns : ¬ nI 0 < qm_nee (nI 1) := by decide
            refine lv_iload hx hb d_MD_play_8 (lv_at hl 0 rfl) ?_
            refine lv_aload_n hx hb d_MD_play_10 rfl (lv_at hl 1 rfl) ?_
            refine qa_get (k := 22) (i := 0) (f := 21) (val := .ref (qa_a y 39 0)) E hC Nat.one_pos rfl rfl (by decide) f_MD_58 rfl rfl d_MD_play_11 ?_
            refine lv_iload_n hx hb d_MD_play_14 rfl (lv_at hl 2 rfl) ?_
            refine qa_ild (k := 39) (i := 0) (j := t) E hC Nat.one_pos rfl rfl rfl ht d_MD_play_15 ?_
            refine lv_icmp_ge hx hb d_MD_play_16 rfl (fun h9 => absurd h9 (by rw [hq]; exact nI_ge hz (by omega))) (fun _ => ?_)
            refine lv_aload_n hx hb d_MD_play_19 rfl (lv_at hl 1 rfl) ?_
            refine qa_get (k := 22) (i := 0) (f := 19) (val := .ref (qa_a y 37 0)) E hC Nat.one_pos rfl rfl (by decide) f_MD_52 rfl rfl d_MD_play_20 ?_
            refine lv_bipush (v := 12) hx hb d_MD_play_23 (by decide) ?_
            refine lv_iload_n hx hb d_MD_play_25 rfl (lv_at hl 2 rfl) ?_
            refine lv_imul hx hb d_MD_play_26 ?_
            refine lv_iload hx hb d_MD_play_27 (lv_at hl 0 rfl) ?_
            refine lv_iadd hx hb d_MD_play_29 ?_
            refine qa_ild (k := 37) (i := 0) (j := ((12 * t) + pp)) E hC Nat.one_pos rfl rfl (qn_add (qn_mul rfl rfl) rfl) (show (12 * t) + pp < 48 by omega) d_MD_play_30 ?_
            rw [eo]
            refine lv_istore hx hb d_MD_play_31 hl (by decide) rfl (fun ls hl => ?_)
            have hl : lv_has ls 11 [(5, .int (nI 1)), (4, .int (nI pp)), (0, .ref (qa_a y 22 0)), (1, .int (nI t)), (2, .int (nI IB)), (3, .int (nI WB))] := hl
            refine lv_aload_n hx hb d_MD_play_33 rfl (lv_at hl 2 rfl) ?_
            refine qa_get (k := 22) (i := 0) (f := 20) (val := .ref (qa_a y 38 0)) E hC Nat.one_pos rfl rfl (by decide) f_MD_55 rfl rfl d_MD_play_34 ?_
            refine lv_bipush (v := 12) hx hb d_MD_play_37 (by decide) ?_
            refine lv_iload_n hx hb d_MD_play_39 rfl (lv_at hl 3 rfl) ?_
            refine lv_imul hx hb d_MD_play_40 ?_
            refine lv_iload hx hb d_MD_play_41 (lv_at hl 1 rfl) ?_
            refine lv_iadd hx hb d_MD_play_43 ?_
            refine qa_ild (k := 38) (i := 0) (j := ((12 * t) + pp)) E hC Nat.one_pos rfl rfl (qn_add (qn_mul rfl rfl) rfl) (show (12 * t) + pp < 48 by omega) d_MD_play_44 ?_
            rw [q38, eX]
            refine lv_istore hx hb d_MD_play_45 hl (by decide) rfl (fun ls hl => ?_)
            have hl : lv_has ls 11 [(6, .int (nI j)), (5, .int (nI 1)), (4, .int (nI pp)), (0, .ref (qa_a y 22 0)), (1, .int (nI t)), (2, .int (nI IB)), (3, .int (nI WB))] := hl
            refine lv_iinc (v := nI (pp + 1)) hx hb d_MD_play_47 hl (k := 2) rfl (nI_1 pp) (by decide) rfl (fun ls hl => ?_)
            have hl : lv_has ls 11 [(4, .int (nI (pp + 1))), (6, .int (nI j)), (5, .int (nI 1)), (0, .ref (qa_a y 22 0)), (1, .int (nI t)), (2, .int (nI IB)), (3, .int (nI WB))] := hl
            refine lv_iload hx hb d_MD_play_50 (lv_at hl 2 rfl) ?_
            refine lv_iconst (v := 3) hx hb d_MD_play_52 (by decide) ?_
            refine lv_icmp_ge hx hb d_MD_play_53 rfl (fun h9 => absurd h9 (by decide)) (fun _ => ?_)
            refine lv_iconst (v := 0) hx hb d_MD_play_56 (by decide) ?_
            refine lv_goto hx hb d_MD_play_57 rfl ?_
            refine lv_istore hx hb d_MD_play_72 hl (by decide) rfl (fun ls hl => ?_)
            have hl : lv_has ls 11 [(7, .int 0), (4, .int (nI (pp + 1))), (6, .int (nI j)), (5, .int (nI 1)), (0, .ref (qa_a y 22 0)), (1, .int (nI t)), (2, .int (nI IB)), (3, .int (nI WB))] := hl
            refine lv_aload_n hx hb d_MD_play_74 rfl (lv_at hl 4 rfl) ?_
            refine qa_get (k := 22) (i := 0) (f := 25) (val := .int (u 22 0 25)) E hC Nat.one_pos rfl rfl (by decide) f_MD_129 rfl rfl d_MD_play_75 ?_
            refine lv_iload hx hb d_MD_play_78 (lv_at hl 0 rfl) ?_
            refine lv_icmp_ge hx hb d_MD_play_80 rfl (fun _ => ?_) (fun h9 => absurd (by rw [j2]; decide) h9)
            refine lv_aload_n hx hb d_MD_play_86 rfl (lv_at hl 4 rfl) ?_
            refine qa_get (k := 22) (i := 0) (f := 25) (val := .int (u 22 0 25)) E hC Nat.one_pos rfl rfl (by decide) f_MD_129 rfl rfl d_MD_play_87 ?_
            refine lv_if_le hx hb d_MD_play_90 rfl (fun _ => ?_) (fun h9 => absurd (by rw [j2]; decide) h9)
            refine lv_iconst (v := 0) hx hb d_MD_play_107 (by decide) ?_
            refine lv_istore hx hb d_MD_play_108 hl (by decide) rfl (fun ls hl => ?_)
            have hl : lv_has ls 11 [(8, .int 0), (7, .int 0), (4, .int (nI (pp + 1))), (6, .int (nI j)), (5, .int (nI 1)), (0, .ref (qa_a y 22 0)), (1, .int (nI t)), (2, .int (nI IB)), (3, .int (nI WB))] := hl
            refine lv_aload_n hx hb d_MD_play_110 rfl (lv_at hl 5 rfl) ?_
            refine qa_get (k := 22) (i := 0) (f := 25) (val := .int (u 22 0 25)) E hC Nat.one_pos rfl rfl (by decide) f_MD_129 rfl rfl d_MD_play_111 ?_
            refine lv_iconst (v := 1) hx hb d_MD_play_114 (by decide) ?_
            refine lv_icmp_le hx hb d_MD_play_115 rfl (fun _ => ?_) (fun h9 => absurd (by rw [j2]; decide) h9)
            refine lv_iconst (v := 0) hx hb d_MD_play_132 (by decide) ?_
            refine lv_istore hx hb d_MD_play_133 hl (by decide) rfl (fun ls hl => ?_)
            have hl : lv_has ls 11 [(9, .int 0), (8, .int 0), (7, .int 0), (4, .int (nI (pp + 1))), (6, .int (nI j)), (5, .int (nI 1)), (0, .ref (qa_a y 22 0)), (1, .int (nI t)), (2, .int (nI IB)), (3, .int (nI WB))] := hl
            refine lv_iload hx hb d_MD_play_135 (lv_at hl 5 rfl) ?_
            refine lv_bipush (v := 6) hx hb d_MD_play_137 (by decide) ?_
            refine lv_icmp_ne hx hb d_MD_play_139 rfl (fun _ => ?_) (fun h9 => absurd h9 (by decide))
            refine lv_iload hx hb d_MD_play_150 (lv_at hl 5 rfl) ?_
            refine lv_iconst (v := 3) hx hb d_MD_play_152 (by decide) ?_
            refine lv_icmp_lt hx hb d_MD_play_153 rfl (fun _ => ?_) (fun h9 => absurd (by decide) h9)
            refine lv_aload_n hx hb d_MD_play_163 rfl (lv_at hl 6 rfl) ?_
            refine qa_get (k := 22) (i := 0) (f := 25) (val := .int (u 22 0 25)) E hC Nat.one_pos rfl rfl (by decide) f_MD_129 rfl rfl d_MD_play_164 ?_
            refine lv_bipush (v := 6) hx hb d_MD_play_167 (by decide) ?_
            refine lv_icmp_ne hx hb d_MD_play_169 rfl (fun _ => ?_) (fun h9 => absurd h9 (by rw [j2]; decide))
            refine lv_iload hx hb d_MD_play_175 (lv_at hl 5 rfl) ?_
            refine lv_bipush (v := 8) hx hb d_MD_play_177 (by decide) ?_
            refine lv_icmp_ne hx hb d_MD_play_179 rfl (fun _ => ?_) (fun h9 => absurd h9 (by decide))
            refine lv_iload hx hb d_MD_play_212 (lv_at hl 2 rfl) ?_
            refine lv_iconst (v := 2) hx hb d_MD_play_214 (by decide) ?_
            refine lv_icmp_ne hx hb d_MD_play_215 rfl (fun _ => ?_) (fun h9 => absurd h9 (by decide))
            refine lv_iload hx hb d_MD_play_248 (lv_at hl 5 rfl) ?_
            refine lv_if_ne hx hb d_MD_play_250 rfl (fun _ => ?_) (fun h9 => absurd h9 (by decide))
            refine lv_iload hx hb d_MD_play_258 (lv_at hl 5 rfl) ?_
            refine lv_iconst (v := 1) hx hb d_MD_play_260 (by decide) ?_
            refine lv_icmp_ne hx hb d_MD_play_261 rfl (fun h9 => absurd (by decide) h9) (fun _ => ?_)
            refine lv_aload_n hx hb d_MD_play_264 rfl (lv_at hl 6 rfl) ?_
            refine qa_get (k := 22) (i := 0) (f := 15) (val := .ref (qa_a y 33 0)) E hC Nat.one_pos rfl rfl (by decide) f_MD_40 rfl rfl d_MD_play_265 ?_
            refine lv_iload_n hx hb d_MD_play_268 rfl (lv_at hl 8 rfl) ?_
            refine lv_iload hx hb d_MD_play_269 (lv_at hl 4 rfl) ?_
            refine lv_iadd hx hb d_MD_play_271 ?_
            refine qa_ild (k := 33) (i := 0) (j := (IB + j)) E hC Nat.one_pos rfl rfl (qn_add rfl rfl) (show IB + j < 56 by omega) d_MD_play_272 ?_
            refine lv_goto hx hb d_MD_play_273 rfl ?_
            refine lv_istore hx hb d_MD_play_296 hl (by decide) rfl (fun ls hl => ?_)
            have hl : lv_has ls 11 [(10, .int (u 33 0 (IB + j))), (9, .int 0), (8, .int 0), (7, .int 0), (4, .int (nI (pp + 1))), (6, .int (nI j)), (5, .int (nI 1)), (0, .ref (qa_a y 22 0)), (1, .int (nI t)), (2, .int (nI IB)), (3, .int (nI WB))] := hl
            refine lv_aload_n hx hb d_MD_play_298 rfl (lv_at hl 7 rfl) ?_
            refine lv_iload hx hb d_MD_play_299 (lv_at hl 0 rfl) ?_
            refine qa_mVv (k := 22) (i := 0) (As := [.int (u 33 0 (IB + j))]) E hC (c_MD_push l y u 0 (u 33 0 (IB + j)) j2 (by decide)) Nat.one_pos rfl rfl k_MD_138 (qa_fitR (by decide) (by decide)) rfl hl.1 rfl (Nat.le_of_ble_eq_true rfl) d_MD_play_301 (fun u4 H locs hp4 hC => ?_)
            refine lv_goto hx hb d_MD_play_304 rfl ?_
            refine ih (pp + 1) u4 H locs ((u 33 0 (IB + j)) :: []) ls (by omega) (by omega) hC ⟨?_, ?_, ⟨?_, ?_⟩, ?_, ?_⟩ (lv_sub hl [4, 7, 8, 9, 10] rfl)
            · show 0 + 1 ≤ 6; omega
            · rw [hp4]; exact qa_up_s
            · rw [hp4, qa_up_kk (by decide)]; exact qa_up_s
            · trivial
            · intro c b8 f h1 h2; rw [hp4, qa_up_x (fun q9 => h1 ⟨q9.1, q9.2.2⟩), qa_up_k h2]; exact i4 c b8 f h1 h2
            · rw [i6s]; exact (qm_ex_f (stk := []) hz eP (show qm_rf (nI 1) 0 0 = 0 from qm_rf_ok ns (fun q9 => absurd q9 (by decide)) (fun _ => show 0 < 6 by decide)) (by decide) (by decide) ((qm_fe_1 (by omega) eX).trans (i4 33 0 (IB + j) (by omega) (by omega)).symm)).symm
          · have j2 : u 22 0 25 = nI 1 := i2
            have m1 : u 22 0 25 - 1 = nI 0 := by rw [j2]; exact nI_pred _
            have eb : u 42 0 0 = b := i3.1
            have ns : ¬ nI 1 < qm_nee (nI 1) := by decide
            refine lv_iload hx hb d_MD_play_8 (lv_at hl 0 rfl) ?_
            refine lv_aload_n hx hb d_MD_play_10 rfl (lv_at hl 1 rfl) ?_
            refine qa_get (k := 22) (i := 0) (f := 21) (val := .ref (qa_a y 39 0)) E hC Nat.one_pos rfl rfl (by decide) f_MD_58 rfl rfl d_MD_play_11 ?_
            refine lv_iload_n hx hb d_MD_play_14 rfl (lv_at hl 2 rfl) ?_
            refine qa_ild (k := 39) (i := 0) (j := t) E hC Nat.one_pos rfl rfl rfl ht d_MD_play_15 ?_
            refine lv_icmp_ge hx hb d_MD_play_16 rfl (fun h9 => absurd h9 (by rw [hq]; exact nI_ge hz (by omega))) (fun _ => ?_)
            refine lv_aload_n hx hb d_MD_play_19 rfl (lv_at hl 1 rfl) ?_
            refine qa_get (k := 22) (i := 0) (f := 19) (val := .ref (qa_a y 37 0)) E hC Nat.one_pos rfl rfl (by decide) f_MD_52 rfl rfl d_MD_play_20 ?_
            refine lv_bipush (v := 12) hx hb d_MD_play_23 (by decide) ?_
            refine lv_iload_n hx hb d_MD_play_25 rfl (lv_at hl 2 rfl) ?_
            refine lv_imul hx hb d_MD_play_26 ?_
            refine lv_iload hx hb d_MD_play_27 (lv_at hl 0 rfl) ?_
            refine lv_iadd hx hb d_MD_play_29 ?_
            refine qa_ild (k := 37) (i := 0) (j := ((12 * t) + pp)) E hC Nat.one_pos rfl rfl (qn_add (qn_mul rfl rfl) rfl) (show (12 * t) + pp < 48 by omega) d_MD_play_30 ?_
            rw [eo]
            refine lv_istore hx hb d_MD_play_31 hl (by decide) rfl (fun ls hl => ?_)
            have hl : lv_has ls 11 [(5, .int (nI 1)), (4, .int (nI pp)), (0, .ref (qa_a y 22 0)), (1, .int (nI t)), (2, .int (nI IB)), (3, .int (nI WB))] := hl
            refine lv_aload_n hx hb d_MD_play_33 rfl (lv_at hl 2 rfl) ?_
            refine qa_get (k := 22) (i := 0) (f := 20) (val := .ref (qa_a y 38 0)) E hC Nat.one_pos rfl rfl (by decide) f_MD_55 rfl rfl d_MD_play_34 ?_
            refine lv_bipush (v := 12) hx hb d_MD_play_37 (by decide) ?_
            refine lv_iload_n hx hb d_MD_play_39 rfl (lv_at hl 3 rfl) ?_
            refine lv_imul hx hb d_MD_play_40 ?_
            refine lv_iload hx hb d_MD_play_41 (lv_at hl 1 rfl) ?_
            refine lv_iadd hx hb d_MD_play_43 ?_
            refine qa_ild (k := 38) (i := 0) (j := ((12 * t) + pp)) E hC Nat.one_pos rfl rfl (qn_add (qn_mul rfl rfl) rfl) (show (12 * t) + pp < 48 by omega) d_MD_play_44 ?_
            rw [q38, eX]
            refine lv_istore hx hb d_MD_play_45 hl (by decide) rfl (fun ls hl => ?_)
            have hl : lv_has ls 11 [(6, .int (nI j)), (5, .int (nI 1)), (4, .int (nI pp)), (0, .ref (qa_a y 22 0)), (1, .int (nI t)), (2, .int (nI IB)), (3, .int (nI WB))] := hl
            refine lv_iinc (v := nI (pp + 1)) hx hb d_MD_play_47 hl (k := 2) rfl (nI_1 pp) (by decide) rfl (fun ls hl => ?_)
            have hl : lv_has ls 11 [(4, .int (nI (pp + 1))), (6, .int (nI j)), (5, .int (nI 1)), (0, .ref (qa_a y 22 0)), (1, .int (nI t)), (2, .int (nI IB)), (3, .int (nI WB))] := hl
            refine lv_iload hx hb d_MD_play_50 (lv_at hl 2 rfl) ?_
            refine lv_iconst (v := 3) hx hb d_MD_play_52 (by decide) ?_
            refine lv_icmp_ge hx hb d_MD_play_53 rfl (fun h9 => absurd h9 (by decide)) (fun _ => ?_)
            refine lv_iconst (v := 0) hx hb d_MD_play_56 (by decide) ?_
            refine lv_goto hx hb d_MD_play_57 rfl ?_
            refine lv_istore hx hb d_MD_play_72 hl (by decide) rfl (fun ls hl => ?_)
            have hl : lv_has ls 11 [(7, .int 0), (4, .int (nI (pp + 1))), (6, .int (nI j)), (5, .int (nI 1)), (0, .ref (qa_a y 22 0)), (1, .int (nI t)), (2, .int (nI IB)), (3, .int (nI WB))] := hl
            refine lv_aload_n hx hb d_MD_play_74 rfl (lv_at hl 4 rfl) ?_
            refine qa_get (k := 22) (i := 0) (f := 25) (val := .int (u 22 0 25)) E hC Nat.one_pos rfl rfl (by decide) f_MD_129 rfl rfl d_MD_play_75 ?_
            refine lv_iload hx hb d_MD_play_78 (lv_at hl 0 rfl) ?_
            refine lv_icmp_ge hx hb d_MD_play_80 rfl (fun _ => ?_) (fun h9 => absurd (by rw [j2]; decide) h9)
            refine lv_aload_n hx hb d_MD_play_86 rfl (lv_at hl 4 rfl) ?_
            refine qa_get (k := 22) (i := 0) (f := 25) (val := .int (u 22 0 25)) E hC Nat.one_pos rfl rfl (by decide) f_MD_129 rfl rfl d_MD_play_87 ?_
            refine lv_if_le hx hb d_MD_play_90 rfl (fun h9 => absurd h9 (by rw [j2]; exact nI_nle (by omega) (by omega))) (fun _ => ?_)
            refine lv_aload_n hx hb d_MD_play_93 rfl (lv_at hl 4 rfl) ?_
            refine qa_get (k := 22) (i := 0) (f := 24) (val := .ref (qa_a y 42 0)) E hC Nat.one_pos rfl rfl (by decide) f_MD_67 rfl rfl d_MD_play_94 ?_
            refine lv_aload_n hx hb d_MD_play_97 rfl (lv_at hl 4 rfl) ?_
            refine qa_get (k := 22) (i := 0) (f := 25) (val := .int (u 22 0 25)) E hC Nat.one_pos rfl rfl (by decide) f_MD_129 rfl rfl d_MD_play_98 ?_
            refine lv_iconst (v := 1) hx hb d_MD_play_101 (by decide) ?_
            refine lv_isub hx hb d_MD_play_102 ?_
            refine qa_ild (k := 42) (i := 0) (j := 0) E hC Nat.one_pos rfl rfl m1 (show 0 < 6 by decide) d_MD_play_103 ?_
            rw [eb]
            refine lv_goto hx hb d_MD_play_104 rfl ?_
            refine lv_istore hx hb d_MD_play_108 hl (by decide) rfl (fun ls hl => ?_)
            have hl : lv_has ls 11 [(8, .int b), (7, .int 0), (4, .int (nI (pp + 1))), (6, .int (nI j)), (5, .int (nI 1)), (0, .ref (qa_a y 22 0)), (1, .int (nI t)), (2, .int (nI IB)), (3, .int (nI WB))] := hl
            refine lv_aload_n hx hb d_MD_play_110 rfl (lv_at hl 5 rfl) ?_
            refine qa_get (k := 22) (i := 0) (f := 25) (val := .int (u 22 0 25)) E hC Nat.one_pos rfl rfl (by decide) f_MD_129 rfl rfl d_MD_play_111 ?_
            refine lv_iconst (v := 1) hx hb d_MD_play_114 (by decide) ?_
            refine lv_icmp_le hx hb d_MD_play_115 rfl (fun _ => ?_) (fun h9 => absurd (by rw [j2]; decide) h9)
            refine lv_iconst (v := 0) hx hb d_MD_play_132 (by decide) ?_
            refine lv_istore hx hb d_MD_play_133 hl (by decide) rfl (fun ls hl => ?_)
            have hl : lv_has ls 11 [(9, .int 0), (8, .int b), (7, .int 0), (4, .int (nI (pp + 1))), (6, .int (nI j)), (5, .int (nI 1)), (0, .ref (qa_a y 22 0)), (1, .int (nI t)), (2, .int (nI IB)), (3, .int (nI WB))] := hl
            refine lv_iload hx hb d_MD_play_135 (lv_at hl 5 rfl) ?_
            refine lv_bipush (v := 6) hx hb d_MD_play_137 (by decide) ?_
            refine lv_icmp_ne hx hb d_MD_play_139 rfl (fun _ => ?_) (fun h9 => absurd h9 (by decide))
            refine lv_iload hx hb d_MD_play_150 (lv_at hl 5 rfl) ?_
            refine lv_iconst (v := 3) hx hb d_MD_play_152 (by decide) ?_
            refine lv_icmp_lt hx hb d_MD_play_153 rfl (fun _ => ?_) (fun h9 => absurd (by decide) h9)
            refine lv_aload_n hx hb d_MD_play_163 rfl (lv_at hl 6 rfl) ?_
            refine qa_get (k := 22) (i := 0) (f := 25) (val := .int (u 22 0 25)) E hC Nat.one_pos rfl rfl (by decide) f_MD_129 rfl rfl d_MD_play_164 ?_
            refine lv_bipush (v := 6) hx hb d_MD_play_167 (by decide) ?_
            refine lv_icmp_ne hx hb d_MD_play_169 rfl (fun _ => ?_) (fun h9 => absurd h9 (by rw [j2]; decide))
            refine lv_iload hx hb d_MD_play_175 (lv_at hl 5 rfl) ?_
            refine lv_bipush (v := 8) hx hb d_MD_play_177 (by decide) ?_
            refine lv_icmp_ne hx hb d_MD_play_179 rfl (fun _ => ?_) (fun h9 => absurd h9 (by decide))
            refine lv_iload hx hb d_MD_play_212 (lv_at hl 2 rfl) ?_
            refine lv_iconst (v := 2) hx hb d_MD_play_214 (by decide) ?_
            refine lv_icmp_ne hx hb d_MD_play_215 rfl (fun _ => ?_) (fun h9 => absurd h9 (by decide))
            refine lv_iload hx hb d_MD_play_248 (lv_at hl 5 rfl) ?_
            refine lv_if_ne hx hb d_MD_play_250 rfl (fun _ => ?_) (fun h9 => absurd h9 (by decide))
            refine lv_iload hx hb d_MD_play_258 (lv_at hl 5 rfl) ?_
            refine lv_iconst (v := 1) hx hb d_MD_play_260 (by decide) ?_
            refine lv_icmp_ne hx hb d_MD_play_261 rfl (fun h9 => absurd (by decide) h9) (fun _ => ?_)
            refine lv_aload_n hx hb d_MD_play_264 rfl (lv_at hl 6 rfl) ?_
            refine qa_get (k := 22) (i := 0) (f := 15) (val := .ref (qa_a y 33 0)) E hC Nat.one_pos rfl rfl (by decide) f_MD_40 rfl rfl d_MD_play_265 ?_
            refine lv_iload_n hx hb d_MD_play_268 rfl (lv_at hl 8 rfl) ?_
            refine lv_iload hx hb d_MD_play_269 (lv_at hl 4 rfl) ?_
            refine lv_iadd hx hb d_MD_play_271 ?_
            refine qa_ild (k := 33) (i := 0) (j := (IB + j)) E hC Nat.one_pos rfl rfl (qn_add rfl rfl) (show IB + j < 56 by omega) d_MD_play_272 ?_
            refine lv_goto hx hb d_MD_play_273 rfl ?_
            refine lv_istore hx hb d_MD_play_296 hl (by decide) rfl (fun ls hl => ?_)
            have hl : lv_has ls 11 [(10, .int (u 33 0 (IB + j))), (9, .int 0), (8, .int b), (7, .int 0), (4, .int (nI (pp + 1))), (6, .int (nI j)), (5, .int (nI 1)), (0, .ref (qa_a y 22 0)), (1, .int (nI t)), (2, .int (nI IB)), (3, .int (nI WB))] := hl
            refine lv_aload_n hx hb d_MD_play_298 rfl (lv_at hl 7 rfl) ?_
            refine lv_iload hx hb d_MD_play_299 (lv_at hl 0 rfl) ?_
            refine qa_mVv (k := 22) (i := 0) (As := [.int (u 33 0 (IB + j))]) E hC (c_MD_push l y u 1 (u 33 0 (IB + j)) j2 (by decide)) Nat.one_pos rfl rfl k_MD_138 (qa_fitR (by decide) (by decide)) rfl hl.1 rfl (Nat.le_of_ble_eq_true rfl) d_MD_play_301 (fun u5 H locs hp5 hC => ?_)
            refine lv_goto hx hb d_MD_play_304 rfl ?_
            refine ih (pp + 1) u5 H locs ((u 33 0 (IB + j)) :: [b]) ls (by omega) (by omega) hC ⟨?_, ?_, ⟨?_, ?_⟩, ?_, ?_⟩ (lv_sub hl [4, 7, 8, 9, 10] rfl)
            · show 1 + 1 ≤ 6; omega
            · rw [hp5]; exact qa_up_s
            · rw [hp5, qa_up_kk (by decide)]; exact qa_up_s
            · refine qm_st_n i3 (fun q hq => ?_)
              have hq : q < 1 := hq
              rw [hp5, qa_up_kk (by decide), qa_up_f (by omega)]
            · intro c b8 f h1 h2; rw [hp5, qa_up_x (fun q9 => h1 ⟨q9.1, q9.2.2⟩), qa_up_k h2]; exact i4 c b8 f h1 h2
            · rw [i6s]; exact (qm_ex_f (stk := [b]) hz eP (show qm_rf (nI 1) 1 b = 0 from qm_rf_ok ns (fun q9 => absurd q9 (by decide)) (fun _ => show 1 < 6 by decide)) (by decide) (by decide) ((qm_fe_1 (by omega) eX).trans (i4 33 0 (IB + j) (by omega) (by omega)).symm)).symm
          · have j2 : u 22 0 25 = nI (r.length + 2) := i2
            have j1 : r.length + 2 ≤ 6 := i1
            have m1 : u 22 0 25 - 1 = nI (r.length + 1) := by rw [j2]; exact nI_pred _
            have eb : u 42 0 (r.length + 1) = b := i3.1
            have m2 : u 22 0 25 - 2 = nI r.length := by rw [j2]; exact pk_sub (a := r.length + 2) (b := 2) (by omega)
            have ea : u 42 0 r.length = a := i3.2.1
            have ns : ¬ nI (r.length + 2) < qm_nee (nI 1) := by rw [show qm_nee (nI 1) = nI 0 from by decide]; exact nI_nlt (by omega) (by omega)
            refine lv_iload hx hb d_MD_play_8 (lv_at hl 0 rfl) ?_
            refine lv_aload_n hx hb d_MD_play_10 rfl (lv_at hl 1 rfl) ?_
            refine qa_get (k := 22) (i := 0) (f := 21) (val := .ref (qa_a y 39 0)) E hC Nat.one_pos rfl rfl (by decide) f_MD_58 rfl rfl d_MD_play_11 ?_
            refine lv_iload_n hx hb d_MD_play_14 rfl (lv_at hl 2 rfl) ?_
            refine qa_ild (k := 39) (i := 0) (j := t) E hC Nat.one_pos rfl rfl rfl ht d_MD_play_15 ?_
            refine lv_icmp_ge hx hb d_MD_play_16 rfl (fun h9 => absurd h9 (by rw [hq]; exact nI_ge hz (by omega))) (fun _ => ?_)
            refine lv_aload_n hx hb d_MD_play_19 rfl (lv_at hl 1 rfl) ?_
            refine qa_get (k := 22) (i := 0) (f := 19) (val := .ref (qa_a y 37 0)) E hC Nat.one_pos rfl rfl (by decide) f_MD_52 rfl rfl d_MD_play_20 ?_
            refine lv_bipush (v := 12) hx hb d_MD_play_23 (by decide) ?_
            refine lv_iload_n hx hb d_MD_play_25 rfl (lv_at hl 2 rfl) ?_
            refine lv_imul hx hb d_MD_play_26 ?_
            refine lv_iload hx hb d_MD_play_27 (lv_at hl 0 rfl) ?_
            refine lv_iadd hx hb d_MD_play_29 ?_
            refine qa_ild (k := 37) (i := 0) (j := ((12 * t) + pp)) E hC Nat.one_pos rfl rfl (qn_add (qn_mul rfl rfl) rfl) (show (12 * t) + pp < 48 by omega) d_MD_play_30 ?_
            rw [eo]
            refine lv_istore hx hb d_MD_play_31 hl (by decide) rfl (fun ls hl => ?_)
            have hl : lv_has ls 11 [(5, .int (nI 1)), (4, .int (nI pp)), (0, .ref (qa_a y 22 0)), (1, .int (nI t)), (2, .int (nI IB)), (3, .int (nI WB))] := hl
            refine lv_aload_n hx hb d_MD_play_33 rfl (lv_at hl 2 rfl) ?_
            refine qa_get (k := 22) (i := 0) (f := 20) (val := .ref (qa_a y 38 0)) E hC Nat.one_pos rfl rfl (by decide) f_MD_55 rfl rfl d_MD_play_34 ?_
            refine lv_bipush (v := 12) hx hb d_MD_play_37 (by decide) ?_
            refine lv_iload_n hx hb d_MD_play_39 rfl (lv_at hl 3 rfl) ?_
            refine lv_imul hx hb d_MD_play_40 ?_
            refine lv_iload hx hb d_MD_play_41 (lv_at hl 1 rfl) ?_
            refine lv_iadd hx hb d_MD_play_43 ?_
            refine qa_ild (k := 38) (i := 0) (j := ((12 * t) + pp)) E hC Nat.one_pos rfl rfl (qn_add (qn_mul rfl rfl) rfl) (show (12 * t) + pp < 48 by omega) d_MD_play_44 ?_
            rw [q38, eX]
            refine lv_istore hx hb d_MD_play_45 hl (by decide) rfl (fun ls hl => ?_)
            have hl : lv_has ls 11 [(6, .int (nI j)), (5, .int (nI 1)), (4, .int (nI pp)), (0, .ref (qa_a y 22 0)), (1, .int (nI t)), (2, .int (nI IB)), (3, .int (nI WB))] := hl
            refine lv_iinc (v := nI (pp + 1)) hx hb d_MD_play_47 hl (k := 2) rfl (nI_1 pp) (by decide) rfl (fun ls hl => ?_)
            have hl : lv_has ls 11 [(4, .int (nI (pp + 1))), (6, .int (nI j)), (5, .int (nI 1)), (0, .ref (qa_a y 22 0)), (1, .int (nI t)), (2, .int (nI IB)), (3, .int (nI WB))] := hl
            refine lv_iload hx hb d_MD_play_50 (lv_at hl 2 rfl) ?_
            refine lv_iconst (v := 3) hx hb d_MD_play_52 (by decide) ?_
            refine lv_icmp_ge hx hb d_MD_play_53 rfl (fun h9 => absurd h9 (by decide)) (fun _ => ?_)
            refine lv_iconst (v := 0) hx hb d_MD_play_56 (by decide) ?_
            refine lv_goto hx hb d_MD_play_57 rfl ?_
            refine lv_istore hx hb d_MD_play_72 hl (by decide) rfl (fun ls hl => ?_)
            have hl : lv_has ls 11 [(7, .int 0), (4, .int (nI (pp + 1))), (6, .int (nI j)), (5, .int (nI 1)), (0, .ref (qa_a y 22 0)), (1, .int (nI t)), (2, .int (nI IB)), (3, .int (nI WB))] := hl
            refine lv_aload_n hx hb d_MD_play_74 rfl (lv_at hl 4 rfl) ?_
            refine qa_get (k := 22) (i := 0) (f := 25) (val := .int (u 22 0 25)) E hC Nat.one_pos rfl rfl (by decide) f_MD_129 rfl rfl d_MD_play_75 ?_
            refine lv_iload hx hb d_MD_play_78 (lv_at hl 0 rfl) ?_
            refine lv_icmp_ge hx hb d_MD_play_80 rfl (fun _ => ?_) (fun h9 => absurd (by rw [j2]; exact nI_le (a := 0) (by omega) (by omega)) h9)
            refine lv_aload_n hx hb d_MD_play_86 rfl (lv_at hl 4 rfl) ?_
            refine qa_get (k := 22) (i := 0) (f := 25) (val := .int (u 22 0 25)) E hC Nat.one_pos rfl rfl (by decide) f_MD_129 rfl rfl d_MD_play_87 ?_
            refine lv_if_le hx hb d_MD_play_90 rfl (fun h9 => absurd h9 (by rw [j2]; exact nI_nle (by omega) (by omega))) (fun _ => ?_)
            refine lv_aload_n hx hb d_MD_play_93 rfl (lv_at hl 4 rfl) ?_
            refine qa_get (k := 22) (i := 0) (f := 24) (val := .ref (qa_a y 42 0)) E hC Nat.one_pos rfl rfl (by decide) f_MD_67 rfl rfl d_MD_play_94 ?_
            refine lv_aload_n hx hb d_MD_play_97 rfl (lv_at hl 4 rfl) ?_
            refine qa_get (k := 22) (i := 0) (f := 25) (val := .int (u 22 0 25)) E hC Nat.one_pos rfl rfl (by decide) f_MD_129 rfl rfl d_MD_play_98 ?_
            refine lv_iconst (v := 1) hx hb d_MD_play_101 (by decide) ?_
            refine lv_isub hx hb d_MD_play_102 ?_
            refine qa_ild (k := 42) (i := 0) (j := (r.length + 1)) E hC Nat.one_pos rfl rfl m1 (show r.length + 1 < 6 by omega) d_MD_play_103 ?_
            rw [eb]
            refine lv_goto hx hb d_MD_play_104 rfl ?_
            refine lv_istore hx hb d_MD_play_108 hl (by decide) rfl (fun ls hl => ?_)
            have hl : lv_has ls 11 [(8, .int b), (7, .int 0), (4, .int (nI (pp + 1))), (6, .int (nI j)), (5, .int (nI 1)), (0, .ref (qa_a y 22 0)), (1, .int (nI t)), (2, .int (nI IB)), (3, .int (nI WB))] := hl
            refine lv_aload_n hx hb d_MD_play_110 rfl (lv_at hl 5 rfl) ?_
            refine qa_get (k := 22) (i := 0) (f := 25) (val := .int (u 22 0 25)) E hC Nat.one_pos rfl rfl (by decide) f_MD_129 rfl rfl d_MD_play_111 ?_
            refine lv_iconst (v := 1) hx hb d_MD_play_114 (by decide) ?_
            refine lv_icmp_le hx hb d_MD_play_115 rfl (fun h9 => absurd h9 (by rw [j2]; exact nI_ge (b := (r.length + 2)) (a := 1) (by omega) (by omega))) (fun _ => ?_)
            refine lv_aload_n hx hb d_MD_play_118 rfl (lv_at hl 5 rfl) ?_
            refine qa_get (k := 22) (i := 0) (f := 24) (val := .ref (qa_a y 42 0)) E hC Nat.one_pos rfl rfl (by decide) f_MD_67 rfl rfl d_MD_play_119 ?_
            refine lv_aload_n hx hb d_MD_play_122 rfl (lv_at hl 5 rfl) ?_
            refine qa_get (k := 22) (i := 0) (f := 25) (val := .int (u 22 0 25)) E hC Nat.one_pos rfl rfl (by decide) f_MD_129 rfl rfl d_MD_play_123 ?_
            refine lv_iconst (v := 2) hx hb d_MD_play_126 (by decide) ?_
            refine lv_isub hx hb d_MD_play_127 ?_
            refine qa_ild (k := 42) (i := 0) (j := r.length) E hC Nat.one_pos rfl rfl m2 (show r.length < 6 by omega) d_MD_play_128 ?_
            rw [ea]
            refine lv_goto hx hb d_MD_play_129 rfl ?_
            refine lv_istore hx hb d_MD_play_133 hl (by decide) rfl (fun ls hl => ?_)
            have hl : lv_has ls 11 [(9, .int a), (8, .int b), (7, .int 0), (4, .int (nI (pp + 1))), (6, .int (nI j)), (5, .int (nI 1)), (0, .ref (qa_a y 22 0)), (1, .int (nI t)), (2, .int (nI IB)), (3, .int (nI WB))] := hl
            refine lv_iload hx hb d_MD_play_135 (lv_at hl 5 rfl) ?_
            refine lv_bipush (v := 6) hx hb d_MD_play_137 (by decide) ?_
            refine lv_icmp_ne hx hb d_MD_play_139 rfl (fun _ => ?_) (fun h9 => absurd h9 (by decide))
            refine lv_iload hx hb d_MD_play_150 (lv_at hl 5 rfl) ?_
            refine lv_iconst (v := 3) hx hb d_MD_play_152 (by decide) ?_
            refine lv_icmp_lt hx hb d_MD_play_153 rfl (fun _ => ?_) (fun h9 => absurd (by decide) h9)
            refine lv_aload_n hx hb d_MD_play_163 rfl (lv_at hl 6 rfl) ?_
            refine qa_get (k := 22) (i := 0) (f := 25) (val := .int (u 22 0 25)) E hC Nat.one_pos rfl rfl (by decide) f_MD_129 rfl rfl d_MD_play_164 ?_
            refine lv_bipush (v := 6) hx hb d_MD_play_167 (by decide) ?_
            refine lv_icmp_ne hx hb d_MD_play_169 rfl (fun h169 => ?_) (fun h169 => ?_)
            · refine lv_iload hx hb d_MD_play_175 (lv_at hl 5 rfl) ?_
              refine lv_bipush (v := 8) hx hb d_MD_play_177 (by decide) ?_
              refine lv_icmp_ne hx hb d_MD_play_179 rfl (fun _ => ?_) (fun h9 => absurd h9 (by decide))
              refine lv_iload hx hb d_MD_play_212 (lv_at hl 2 rfl) ?_
              refine lv_iconst (v := 2) hx hb d_MD_play_214 (by decide) ?_
              refine lv_icmp_ne hx hb d_MD_play_215 rfl (fun _ => ?_) (fun h9 => absurd h9 (by decide))
              refine lv_iload hx hb d_MD_play_248 (lv_at hl 5 rfl) ?_
              refine lv_if_ne hx hb d_MD_play_250 rfl (fun _ => ?_) (fun h9 => absurd h9 (by decide))
              refine lv_iload hx hb d_MD_play_258 (lv_at hl 5 rfl) ?_
              refine lv_iconst (v := 1) hx hb d_MD_play_260 (by decide) ?_
              refine lv_icmp_ne hx hb d_MD_play_261 rfl (fun h9 => absurd (by decide) h9) (fun _ => ?_)
              refine lv_aload_n hx hb d_MD_play_264 rfl (lv_at hl 6 rfl) ?_
              refine qa_get (k := 22) (i := 0) (f := 15) (val := .ref (qa_a y 33 0)) E hC Nat.one_pos rfl rfl (by decide) f_MD_40 rfl rfl d_MD_play_265 ?_
              refine lv_iload_n hx hb d_MD_play_268 rfl (lv_at hl 8 rfl) ?_
              refine lv_iload hx hb d_MD_play_269 (lv_at hl 4 rfl) ?_
              refine lv_iadd hx hb d_MD_play_271 ?_
              refine qa_ild (k := 33) (i := 0) (j := (IB + j)) E hC Nat.one_pos rfl rfl (qn_add rfl rfl) (show IB + j < 56 by omega) d_MD_play_272 ?_
              refine lv_goto hx hb d_MD_play_273 rfl ?_
              refine lv_istore hx hb d_MD_play_296 hl (by decide) rfl (fun ls hl => ?_)
              have hl : lv_has ls 11 [(10, .int (u 33 0 (IB + j))), (9, .int a), (8, .int b), (7, .int 0), (4, .int (nI (pp + 1))), (6, .int (nI j)), (5, .int (nI 1)), (0, .ref (qa_a y 22 0)), (1, .int (nI t)), (2, .int (nI IB)), (3, .int (nI WB))] := hl
              refine lv_aload_n hx hb d_MD_play_298 rfl (lv_at hl 7 rfl) ?_
              refine lv_iload hx hb d_MD_play_299 (lv_at hl 0 rfl) ?_
              have d6 : r.length + 2 < 6 := by
                have z9 : ¬ nI (r.length + 2) = nI 6 := by rw [← j2]; exact h169
                rw [nI_eq (by omega) (by omega)] at z9
                omega
              refine qa_mVv (k := 22) (i := 0) (As := [.int (u 33 0 (IB + j))]) E hC (c_MD_push l y u (r.length + 2) (u 33 0 (IB + j)) j2 d6) Nat.one_pos rfl rfl k_MD_138 (qa_fitR (by decide) (by decide)) rfl hl.1 rfl (Nat.le_of_ble_eq_true rfl) d_MD_play_301 (fun u6 H locs hp6 hC => ?_)
              refine lv_goto hx hb d_MD_play_304 rfl ?_
              refine ih (pp + 1) u6 H locs ((u 33 0 (IB + j)) :: (b :: a :: r)) ls (by omega) (by omega) hC ⟨?_, ?_, ⟨?_, ?_⟩, ?_, ?_⟩ (lv_sub hl [4, 7, 8, 9, 10] rfl)
              · show (r.length + 2) + 1 ≤ 6; omega
              · rw [hp6]; exact qa_up_s
              · rw [hp6, qa_up_kk (by decide)]; exact qa_up_s
              · refine qm_st_n i3 (fun q hq => ?_)
                have hq : q < (r.length + 2) := hq
                rw [hp6, qa_up_kk (by decide), qa_up_f (by omega)]
              · intro c b8 f h1 h2; rw [hp6, qa_up_x (fun q9 => h1 ⟨q9.1, q9.2.2⟩), qa_up_k h2]; exact i4 c b8 f h1 h2
              · rw [i6s]; exact (qm_ex_f (stk := (b :: a :: r)) hz eP (show qm_rf (nI 1) (r.length + 2) b = 0 from qm_rf_ok ns (fun q9 => absurd q9 (by decide)) (fun _ => d6)) (by decide) (by decide) ((qm_fe_1 (by omega) eX).trans (i4 33 0 (IB + j) (by omega) (by omega)).symm)).symm
            · refine lv_ldc (v := -1000000002) hx hb hown (hts _ k_MD_134) d_MD_play_172 ?_
              exact qa_mret E hC hr hlocks ⟨by rw [i6s]; exact (qm_ex_r (stk := (b :: a :: r)) hz eP (show qm_rf (nI 1) (r.length + 2) b = -1000000002 from qm_rf_dp ns (by decide) (by decide) (by rw [← j2]; exact h169)) (by decide)).symm, i4⟩ d_MD_play_174
        · have eo : u 37 0 (12 * t + pp) = nI 2 := q37.trans eP
          rw [eP] at hok
          obtain ⟨j, hj, eX⟩ := hok.2.2.1 (by decide)
          rcases stk with _ | ⟨b, _ | ⟨a, r⟩⟩
          · have j2 : u 22 0 25 = nI 0 := i2
            have ns : ¬ nI 0 < qm_nee (nI 2) := by decide
            refine lv_iload hx hb d_MD_play_8 (lv_at hl 0 rfl) ?_
            refine lv_aload_n hx hb d_MD_play_10 rfl (lv_at hl 1 rfl) ?_
            refine qa_get (k := 22) (i := 0) (f := 21) (val := .ref (qa_a y 39 0)) E hC Nat.one_pos rfl rfl (by decide) f_MD_58 rfl rfl d_MD_play_11 ?_
            refine lv_iload_n hx hb d_MD_play_14 rfl (lv_at hl 2 rfl) ?_
            refine qa_ild (k := 39) (i := 0) (j := t) E hC Nat.one_pos rfl rfl rfl ht d_MD_play_15 ?_
            refine lv_icmp_ge hx hb d_MD_play_16 rfl (fun h9 => absurd h9 (by rw [hq]; exact nI_ge hz (by omega))) (fun _ => ?_)
            refine lv_aload_n hx hb d_MD_play_19 rfl (lv_at hl 1 rfl) ?_
            refine qa_get (k := 22) (i := 0) (f := 19) (val := .ref (qa_a y 37 0)) E hC Nat.one_pos rfl rfl (by decide) f_MD_52 rfl rfl d_MD_play_20 ?_
            refine lv_bipush (v := 12) hx hb d_MD_play_23 (by decide) ?_
            refine lv_iload_n hx hb d_MD_play_25 rfl (lv_at hl 2 rfl) ?_
            refine lv_imul hx hb d_MD_play_26 ?_
            refine lv_iload hx hb d_MD_play_27 (lv_at hl 0 rfl) ?_
            refine lv_iadd hx hb d_MD_play_29 ?_
            refine qa_ild (k := 37) (i := 0) (j := ((12 * t) + pp)) E hC Nat.one_pos rfl rfl (qn_add (qn_mul rfl rfl) rfl) (show (12 * t) + pp < 48 by omega) d_MD_play_30 ?_
            rw [eo]
            refine lv_istore hx hb d_MD_play_31 hl (by decide) rfl (fun ls hl => ?_)
            have hl : lv_has ls 11 [(5, .int (nI 2)), (4, .int (nI pp)), (0, .ref (qa_a y 22 0)), (1, .int (nI t)), (2, .int (nI IB)), (3, .int (nI WB))] := hl
            refine lv_aload_n hx hb d_MD_play_33 rfl (lv_at hl 2 rfl) ?_
            refine qa_get (k := 22) (i := 0) (f := 20) (val := .ref (qa_a y 38 0)) E hC Nat.one_pos rfl rfl (by decide) f_MD_55 rfl rfl d_MD_play_34 ?_
            refine lv_bipush (v := 12) hx hb d_MD_play_37 (by decide) ?_
            refine lv_iload_n hx hb d_MD_play_39 rfl (lv_at hl 3 rfl) ?_
            refine lv_imul hx hb d_MD_play_40 ?_
            refine lv_iload hx hb d_MD_play_41 (lv_at hl 1 rfl) ?_
            refine lv_iadd hx hb d_MD_play_43 ?_
            refine qa_ild (k := 38) (i := 0) (j := ((12 * t) + pp)) E hC Nat.one_pos rfl rfl (qn_add (qn_mul rfl rfl) rfl) (show (12 * t) + pp < 48 by omega) d_MD_play_44 ?_
            rw [q38, eX]
            refine lv_istore hx hb d_MD_play_45 hl (by decide) rfl (fun ls hl => ?_)
            have hl : lv_has ls 11 [(6, .int (nI j)), (5, .int (nI 2)), (4, .int (nI pp)), (0, .ref (qa_a y 22 0)), (1, .int (nI t)), (2, .int (nI IB)), (3, .int (nI WB))] := hl
            refine lv_iinc (v := nI (pp + 1)) hx hb d_MD_play_47 hl (k := 2) rfl (nI_1 pp) (by decide) rfl (fun ls hl => ?_)
            have hl : lv_has ls 11 [(4, .int (nI (pp + 1))), (6, .int (nI j)), (5, .int (nI 2)), (0, .ref (qa_a y 22 0)), (1, .int (nI t)), (2, .int (nI IB)), (3, .int (nI WB))] := hl
            refine lv_iload hx hb d_MD_play_50 (lv_at hl 2 rfl) ?_
            refine lv_iconst (v := 3) hx hb d_MD_play_52 (by decide) ?_
            refine lv_icmp_ge hx hb d_MD_play_53 rfl (fun h9 => absurd h9 (by decide)) (fun _ => ?_)
            refine lv_iconst (v := 0) hx hb d_MD_play_56 (by decide) ?_
            refine lv_goto hx hb d_MD_play_57 rfl ?_
            refine lv_istore hx hb d_MD_play_72 hl (by decide) rfl (fun ls hl => ?_)
            have hl : lv_has ls 11 [(7, .int 0), (4, .int (nI (pp + 1))), (6, .int (nI j)), (5, .int (nI 2)), (0, .ref (qa_a y 22 0)), (1, .int (nI t)), (2, .int (nI IB)), (3, .int (nI WB))] := hl
            refine lv_aload_n hx hb d_MD_play_74 rfl (lv_at hl 4 rfl) ?_
            refine qa_get (k := 22) (i := 0) (f := 25) (val := .int (u 22 0 25)) E hC Nat.one_pos rfl rfl (by decide) f_MD_129 rfl rfl d_MD_play_75 ?_
            refine lv_iload hx hb d_MD_play_78 (lv_at hl 0 rfl) ?_
            refine lv_icmp_ge hx hb d_MD_play_80 rfl (fun _ => ?_) (fun h9 => absurd (by rw [j2]; decide) h9)
            refine lv_aload_n hx hb d_MD_play_86 rfl (lv_at hl 4 rfl) ?_
            refine qa_get (k := 22) (i := 0) (f := 25) (val := .int (u 22 0 25)) E hC Nat.one_pos rfl rfl (by decide) f_MD_129 rfl rfl d_MD_play_87 ?_
            refine lv_if_le hx hb d_MD_play_90 rfl (fun _ => ?_) (fun h9 => absurd (by rw [j2]; decide) h9)
            refine lv_iconst (v := 0) hx hb d_MD_play_107 (by decide) ?_
            refine lv_istore hx hb d_MD_play_108 hl (by decide) rfl (fun ls hl => ?_)
            have hl : lv_has ls 11 [(8, .int 0), (7, .int 0), (4, .int (nI (pp + 1))), (6, .int (nI j)), (5, .int (nI 2)), (0, .ref (qa_a y 22 0)), (1, .int (nI t)), (2, .int (nI IB)), (3, .int (nI WB))] := hl
            refine lv_aload_n hx hb d_MD_play_110 rfl (lv_at hl 5 rfl) ?_
            refine qa_get (k := 22) (i := 0) (f := 25) (val := .int (u 22 0 25)) E hC Nat.one_pos rfl rfl (by decide) f_MD_129 rfl rfl d_MD_play_111 ?_
            refine lv_iconst (v := 1) hx hb d_MD_play_114 (by decide) ?_
            refine lv_icmp_le hx hb d_MD_play_115 rfl (fun _ => ?_) (fun h9 => absurd (by rw [j2]; decide) h9)
            refine lv_iconst (v := 0) hx hb d_MD_play_132 (by decide) ?_
            refine lv_istore hx hb d_MD_play_133 hl (by decide) rfl (fun ls hl => ?_)
            have hl : lv_has ls 11 [(9, .int 0), (8, .int 0), (7, .int 0), (4, .int (nI (pp + 1))), (6, .int (nI j)), (5, .int (nI 2)), (0, .ref (qa_a y 22 0)), (1, .int (nI t)), (2, .int (nI IB)), (3, .int (nI WB))] := hl
            refine lv_iload hx hb d_MD_play_135 (lv_at hl 5 rfl) ?_
            refine lv_bipush (v := 6) hx hb d_MD_play_137 (by decide) ?_
            refine lv_icmp_ne hx hb d_MD_play_139 rfl (fun _ => ?_) (fun h9 => absurd h9 (by decide))
            refine lv_iload hx hb d_MD_play_150 (lv_at hl 5 rfl) ?_
            refine lv_iconst (v := 3) hx hb d_MD_play_152 (by decide) ?_
            refine lv_icmp_lt hx hb d_MD_play_153 rfl (fun _ => ?_) (fun h9 => absurd (by decide) h9)
            refine lv_aload_n hx hb d_MD_play_163 rfl (lv_at hl 6 rfl) ?_
            refine qa_get (k := 22) (i := 0) (f := 25) (val := .int (u 22 0 25)) E hC Nat.one_pos rfl rfl (by decide) f_MD_129 rfl rfl d_MD_play_164 ?_
            refine lv_bipush (v := 6) hx hb d_MD_play_167 (by decide) ?_
            refine lv_icmp_ne hx hb d_MD_play_169 rfl (fun _ => ?_) (fun h9 => absurd h9 (by rw [j2]; decide))
            refine lv_iload hx hb d_MD_play_175 (lv_at hl 5 rfl) ?_
            refine lv_bipush (v := 8) hx hb d_MD_play_177 (by decide) ?_
            refine lv_icmp_ne hx hb d_MD_play_179 rfl (fun _ => ?_) (fun h9 => absurd h9 (by decide))
            refine lv_iload hx hb d_MD_play_212 (lv_at hl 2 rfl) ?_
            refine lv_iconst (v := 2) hx hb d_MD_play_214 (by decide) ?_
            refine lv_icmp_ne hx hb d_MD_play_215 rfl (fun _ => ?_) (fun h9 => absurd h9 (by decide))
            refine lv_iload hx hb d_MD_play_248 (lv_at hl 5 rfl) ?_
            refine lv_if_ne hx hb d_MD_play_250 rfl (fun _ => ?_) (fun h9 => absurd h9 (by decide))
            refine lv_iload hx hb d_MD_play_258 (lv_at hl 5 rfl) ?_
            refine lv_iconst (v := 1) hx hb d_MD_play_260 (by decide) ?_
            refine lv_icmp_ne hx hb d_MD_play_261 rfl (fun _ => ?_) (fun h9 => absurd h9 (by decide))
            refine lv_iload hx hb d_MD_play_276 (lv_at hl 5 rfl) ?_
            refine lv_iconst (v := 2) hx hb d_MD_play_278 (by decide) ?_
            refine lv_icmp_ne hx hb d_MD_play_279 rfl (fun h9 => absurd (by decide) h9) (fun _ => ?_)
            refine lv_aload_n hx hb d_MD_play_282 rfl (lv_at hl 6 rfl) ?_
            refine qa_get (k := 22) (i := 0) (f := 14) (val := .ref (qa_a y 32 0)) E hC Nat.one_pos rfl rfl (by decide) f_MD_37 rfl rfl d_MD_play_283 ?_
            refine lv_iload_n hx hb d_MD_play_286 rfl (lv_at hl 9 rfl) ?_
            refine lv_iload hx hb d_MD_play_287 (lv_at hl 4 rfl) ?_
            refine lv_iadd hx hb d_MD_play_289 ?_
            refine qa_ild (k := 32) (i := 0) (j := (WB + j)) E hC Nat.one_pos rfl rfl (qn_add rfl rfl) (show WB + j < 32 by omega) d_MD_play_290 ?_
            refine lv_goto hx hb d_MD_play_291 rfl ?_
            refine lv_istore hx hb d_MD_play_296 hl (by decide) rfl (fun ls hl => ?_)
            have hl : lv_has ls 11 [(10, .int (u 32 0 (WB + j))), (9, .int 0), (8, .int 0), (7, .int 0), (4, .int (nI (pp + 1))), (6, .int (nI j)), (5, .int (nI 2)), (0, .ref (qa_a y 22 0)), (1, .int (nI t)), (2, .int (nI IB)), (3, .int (nI WB))] := hl
            refine lv_aload_n hx hb d_MD_play_298 rfl (lv_at hl 7 rfl) ?_
            refine lv_iload hx hb d_MD_play_299 (lv_at hl 0 rfl) ?_
            refine qa_mVv (k := 22) (i := 0) (As := [.int (u 32 0 (WB + j))]) E hC (c_MD_push l y u 0 (u 32 0 (WB + j)) j2 (by decide)) Nat.one_pos rfl rfl k_MD_138 (qa_fitR (by decide) (by decide)) rfl hl.1 rfl (Nat.le_of_ble_eq_true rfl) d_MD_play_301 (fun u7 H locs hp7 hC => ?_)
            refine lv_goto hx hb d_MD_play_304 rfl ?_
            refine ih (pp + 1) u7 H locs ((u 32 0 (WB + j)) :: []) ls (by omega) (by omega) hC ⟨?_, ?_, ⟨?_, ?_⟩, ?_, ?_⟩ (lv_sub hl [4, 7, 8, 9, 10] rfl)
            · show 0 + 1 ≤ 6; omega
            · rw [hp7]; exact qa_up_s
            · rw [hp7, qa_up_kk (by decide)]; exact qa_up_s
            · trivial
            · intro c b8 f h1 h2; rw [hp7, qa_up_x (fun q9 => h1 ⟨q9.1, q9.2.2⟩), qa_up_k h2]; exact i4 c b8 f h1 h2
            · rw [i6s]; exact (qm_ex_f (stk := []) hz eP (show qm_rf (nI 2) 0 0 = 0 from qm_rf_ok ns (fun q9 => absurd q9 (by decide)) (fun _ => show 0 < 6 by decide)) (by decide) (by decide) ((qm_fe_2 (by omega) eX).trans (i4 32 0 (WB + j) (by omega) (by omega)).symm)).symm
          · have j2 : u 22 0 25 = nI 1 := i2
            have m1 : u 22 0 25 - 1 = nI 0 := by rw [j2]; exact nI_pred _
            have eb : u 42 0 0 = b := i3.1
            have ns : ¬ nI 1 < qm_nee (nI 2) := by decide
            refine lv_iload hx hb d_MD_play_8 (lv_at hl 0 rfl) ?_
            refine lv_aload_n hx hb d_MD_play_10 rfl (lv_at hl 1 rfl) ?_
            refine qa_get (k := 22) (i := 0) (f := 21) (val := .ref (qa_a y 39 0)) E hC Nat.one_pos rfl rfl (by decide) f_MD_58 rfl rfl d_MD_play_11 ?_
            refine lv_iload_n hx hb d_MD_play_14 rfl (lv_at hl 2 rfl) ?_
            refine qa_ild (k := 39) (i := 0) (j := t) E hC Nat.one_pos rfl rfl rfl ht d_MD_play_15 ?_
            refine lv_icmp_ge hx hb d_MD_play_16 rfl (fun h9 => absurd h9 (by rw [hq]; exact nI_ge hz (by omega))) (fun _ => ?_)
            refine lv_aload_n hx hb d_MD_play_19 rfl (lv_at hl 1 rfl) ?_
            refine qa_get (k := 22) (i := 0) (f := 19) (val := .ref (qa_a y 37 0)) E hC Nat.one_pos rfl rfl (by decide) f_MD_52 rfl rfl d_MD_play_20 ?_
            refine lv_bipush (v := 12) hx hb d_MD_play_23 (by decide) ?_
            refine lv_iload_n hx hb d_MD_play_25 rfl (lv_at hl 2 rfl) ?_
            refine lv_imul hx hb d_MD_play_26 ?_
            refine lv_iload hx hb d_MD_play_27 (lv_at hl 0 rfl) ?_
            refine lv_iadd hx hb d_MD_play_29 ?_
            refine qa_ild (k := 37) (i := 0) (j := ((12 * t) + pp)) E hC Nat.one_pos rfl rfl (qn_add (qn_mul rfl rfl) rfl) (show (12 * t) + pp < 48 by omega) d_MD_play_30 ?_
            rw [eo]
            refine lv_istore hx hb d_MD_play_31 hl (by decide) rfl (fun ls hl => ?_)
            have hl : lv_has ls 11 [(5, .int (nI 2)), (4, .int (nI pp)), (0, .ref (qa_a y 22 0)), (1, .int (nI t)), (2, .int (nI IB)), (3, .int (nI WB))] := hl
            refine lv_aload_n hx hb d_MD_play_33 rfl (lv_at hl 2 rfl) ?_
            refine qa_get (k := 22) (i := 0) (f := 20) (val := .ref (qa_a y 38 0)) E hC Nat.one_pos rfl rfl (by decide) f_MD_55 rfl rfl d_MD_play_34 ?_
            refine lv_bipush (v := 12) hx hb d_MD_play_37 (by decide) ?_
            refine lv_iload_n hx hb d_MD_play_39 rfl (lv_at hl 3 rfl) ?_
            refine lv_imul hx hb d_MD_play_40 ?_
            refine lv_iload hx hb d_MD_play_41 (lv_at hl 1 rfl) ?_
            refine lv_iadd hx hb d_MD_play_43 ?_
            refine qa_ild (k := 38) (i := 0) (j := ((12 * t) + pp)) E hC Nat.one_pos rfl rfl (qn_add (qn_mul rfl rfl) rfl) (show (12 * t) + pp < 48 by omega) d_MD_play_44 ?_
            rw [q38, eX]
            refine lv_istore hx hb d_MD_play_45 hl (by decide) rfl (fun ls hl => ?_)
            have hl : lv_has ls 11 [(6, .int (nI j)), (5, .int (nI 2)), (4, .int (nI pp)), (0, .ref (qa_a y 22 0)), (1, .int (nI t)), (2, .int (nI IB)), (3, .int (nI WB))] := hl
            refine lv_iinc (v := nI (pp + 1)) hx hb d_MD_play_47 hl (k := 2) rfl (nI_1 pp) (by decide) rfl (fun ls hl => ?_)
            have hl : lv_has ls 11 [(4, .int (nI (pp + 1))), (6, .int (nI j)), (5, .int (nI 2)), (0, .ref (qa_a y 22 0)), (1, .int (nI t)), (2, .int (nI IB)), (3, .int (nI WB))] := hl
            refine lv_iload hx hb d_MD_play_50 (lv_at hl 2 rfl) ?_
            refine lv_iconst (v := 3) hx hb d_MD_play_52 (by decide) ?_
            refine lv_icmp_ge hx hb d_MD_play_53 rfl (fun h9 => absurd h9 (by decide)) (fun _ => ?_)
            refine lv_iconst (v := 0) hx hb d_MD_play_56 (by decide) ?_
            refine lv_goto hx hb d_MD_play_57 rfl ?_
            refine lv_istore hx hb d_MD_play_72 hl (by decide) rfl (fun ls hl => ?_)
            have hl : lv_has ls 11 [(7, .int 0), (4, .int (nI (pp + 1))), (6, .int (nI j)), (5, .int (nI 2)), (0, .ref (qa_a y 22 0)), (1, .int (nI t)), (2, .int (nI IB)), (3, .int (nI WB))] := hl
            refine lv_aload_n hx hb d_MD_play_74 rfl (lv_at hl 4 rfl) ?_
            refine qa_get (k := 22) (i := 0) (f := 25) (val := .int (u 22 0 25)) E hC Nat.one_pos rfl rfl (by decide) f_MD_129 rfl rfl d_MD_play_75 ?_
            refine lv_iload hx hb d_MD_play_78 (lv_at hl 0 rfl) ?_
            refine lv_icmp_ge hx hb d_MD_play_80 rfl (fun _ => ?_) (fun h9 => absurd (by rw [j2]; decide) h9)
            refine lv_aload_n hx hb d_MD_play_86 rfl (lv_at hl 4 rfl) ?_
            refine qa_get (k := 22) (i := 0) (f := 25) (val := .int (u 22 0 25)) E hC Nat.one_pos rfl rfl (by decide) f_MD_129 rfl rfl d_MD_play_87 ?_
            refine lv_if_le hx hb d_MD_play_90 rfl (fun h9 => absurd h9 (by rw [j2]; exact nI_nle (by omega) (by omega))) (fun _ => ?_)
            refine lv_aload_n hx hb d_MD_play_93 rfl (lv_at hl 4 rfl) ?_
            refine qa_get (k := 22) (i := 0) (f := 24) (val := .ref (qa_a y 42 0)) E hC Nat.one_pos rfl rfl (by decide) f_MD_67 rfl rfl d_MD_play_94 ?_
            refine lv_aload_n hx hb d_MD_play_97 rfl (lv_at hl 4 rfl) ?_
            refine qa_get (k := 22) (i := 0) (f := 25) (val := .int (u 22 0 25)) E hC Nat.one_pos rfl rfl (by decide) f_MD_129 rfl rfl d_MD_play_98 ?_
            refine lv_iconst (v := 1) hx hb d_MD_play_101 (by decide) ?_
            refine lv_isub hx hb d_MD_play_102 ?_
            refine qa_ild (k := 42) (i := 0) (j := 0) E hC Nat.one_pos rfl rfl m1 (show 0 < 6 by decide) d_MD_play_103 ?_
            rw [eb]
            refine lv_goto hx hb d_MD_play_104 rfl ?_
            refine lv_istore hx hb d_MD_play_108 hl (by decide) rfl (fun ls hl => ?_)
            have hl : lv_has ls 11 [(8, .int b), (7, .int 0), (4, .int (nI (pp + 1))), (6, .int (nI j)), (5, .int (nI 2)), (0, .ref (qa_a y 22 0)), (1, .int (nI t)), (2, .int (nI IB)), (3, .int (nI WB))] := hl
            refine lv_aload_n hx hb d_MD_play_110 rfl (lv_at hl 5 rfl) ?_
            refine qa_get (k := 22) (i := 0) (f := 25) (val := .int (u 22 0 25)) E hC Nat.one_pos rfl rfl (by decide) f_MD_129 rfl rfl d_MD_play_111 ?_
            refine lv_iconst (v := 1) hx hb d_MD_play_114 (by decide) ?_
            refine lv_icmp_le hx hb d_MD_play_115 rfl (fun _ => ?_) (fun h9 => absurd (by rw [j2]; decide) h9)
            refine lv_iconst (v := 0) hx hb d_MD_play_132 (by decide) ?_
            refine lv_istore hx hb d_MD_play_133 hl (by decide) rfl (fun ls hl => ?_)
            have hl : lv_has ls 11 [(9, .int 0), (8, .int b), (7, .int 0), (4, .int (nI (pp + 1))), (6, .int (nI j)), (5, .int (nI 2)), (0, .ref (qa_a y 22 0)), (1, .int (nI t)), (2, .int (nI IB)), (3, .int (nI WB))] := hl
            refine lv_iload hx hb d_MD_play_135 (lv_at hl 5 rfl) ?_
            refine lv_bipush (v := 6) hx hb d_MD_play_137 (by decide) ?_
            refine lv_icmp_ne hx hb d_MD_play_139 rfl (fun _ => ?_) (fun h9 => absurd h9 (by decide))
            refine lv_iload hx hb d_MD_play_150 (lv_at hl 5 rfl) ?_
            refine lv_iconst (v := 3) hx hb d_MD_play_152 (by decide) ?_
            refine lv_icmp_lt hx hb d_MD_play_153 rfl (fun _ => ?_) (fun h9 => absurd (by decide) h9)
            refine lv_aload_n hx hb d_MD_play_163 rfl (lv_at hl 6 rfl) ?_
            refine qa_get (k := 22) (i := 0) (f := 25) (val := .int (u 22 0 25)) E hC Nat.one_pos rfl rfl (by decide) f_MD_129 rfl rfl d_MD_play_164 ?_
            refine lv_bipush (v := 6) hx hb d_MD_play_167 (by decide) ?_
            refine lv_icmp_ne hx hb d_MD_play_169 rfl (fun _ => ?_) (fun h9 => absurd h9 (by rw [j2]; decide))
            refine lv_iload hx hb d_MD_play_175 (lv_at hl 5 rfl) ?_
            refine lv_bipush (v := 8) hx hb d_MD_play_177 (by decide) ?_
            refine lv_icmp_ne hx hb d_MD_play_179 rfl (fun _ => ?_) (fun h9 => absurd h9 (by decide))
            refine lv_iload hx hb d_MD_play_212 (lv_at hl 2 rfl) ?_
            refine lv_iconst (v := 2) hx hb d_MD_play_214 (by decide) ?_
            refine lv_icmp_ne hx hb d_MD_play_215 rfl (fun _ => ?_) (fun h9 => absurd h9 (by decide))
            refine lv_iload hx hb d_MD_play_248 (lv_at hl 5 rfl) ?_
            refine lv_if_ne hx hb d_MD_play_250 rfl (fun _ => ?_) (fun h9 => absurd h9 (by decide))
            refine lv_iload hx hb d_MD_play_258 (lv_at hl 5 rfl) ?_
            refine lv_iconst (v := 1) hx hb d_MD_play_260 (by decide) ?_
            refine lv_icmp_ne hx hb d_MD_play_261 rfl (fun _ => ?_) (fun h9 => absurd h9 (by decide))
            refine lv_iload hx hb d_MD_play_276 (lv_at hl 5 rfl) ?_
            refine lv_iconst (v := 2) hx hb d_MD_play_278 (by decide) ?_
            refine lv_icmp_ne hx hb d_MD_play_279 rfl (fun h9 => absurd (by decide) h9) (fun _ => ?_)
            refine lv_aload_n hx hb d_MD_play_282 rfl (lv_at hl 6 rfl) ?_
            refine qa_get (k := 22) (i := 0) (f := 14) (val := .ref (qa_a y 32 0)) E hC Nat.one_pos rfl rfl (by decide) f_MD_37 rfl rfl d_MD_play_283 ?_
            refine lv_iload_n hx hb d_MD_play_286 rfl (lv_at hl 9 rfl) ?_
            refine lv_iload hx hb d_MD_play_287 (lv_at hl 4 rfl) ?_
            refine lv_iadd hx hb d_MD_play_289 ?_
            refine qa_ild (k := 32) (i := 0) (j := (WB + j)) E hC Nat.one_pos rfl rfl (qn_add rfl rfl) (show WB + j < 32 by omega) d_MD_play_290 ?_
            refine lv_goto hx hb d_MD_play_291 rfl ?_
            refine lv_istore hx hb d_MD_play_296 hl (by decide) rfl (fun ls hl => ?_)
            have hl : lv_has ls 11 [(10, .int (u 32 0 (WB + j))), (9, .int 0), (8, .int b), (7, .int 0), (4, .int (nI (pp + 1))), (6, .int (nI j)), (5, .int (nI 2)), (0, .ref (qa_a y 22 0)), (1, .int (nI t)), (2, .int (nI IB)), (3, .int (nI WB))] := hl
            refine lv_aload_n hx hb d_MD_play_298 rfl (lv_at hl 7 rfl) ?_
            refine lv_iload hx hb d_MD_play_299 (lv_at hl 0 rfl) ?_
            refine qa_mVv (k := 22) (i := 0) (As := [.int (u 32 0 (WB + j))]) E hC (c_MD_push l y u 1 (u 32 0 (WB + j)) j2 (by decide)) Nat.one_pos rfl rfl k_MD_138 (qa_fitR (by decide) (by decide)) rfl hl.1 rfl (Nat.le_of_ble_eq_true rfl) d_MD_play_301 (fun u8 H locs hp8 hC => ?_)
            refine lv_goto hx hb d_MD_play_304 rfl ?_
            refine ih (pp + 1) u8 H locs ((u 32 0 (WB + j)) :: [b]) ls (by omega) (by omega) hC ⟨?_, ?_, ⟨?_, ?_⟩, ?_, ?_⟩ (lv_sub hl [4, 7, 8, 9, 10] rfl)
            · show 1 + 1 ≤ 6; omega
            · rw [hp8]; exact qa_up_s
            · rw [hp8, qa_up_kk (by decide)]; exact qa_up_s
            · refine qm_st_n i3 (fun q hq => ?_)
              have hq : q < 1 := hq
              rw [hp8, qa_up_kk (by decide), qa_up_f (by omega)]
            · intro c b8 f h1 h2; rw [hp8, qa_up_x (fun q9 => h1 ⟨q9.1, q9.2.2⟩), qa_up_k h2]; exact i4 c b8 f h1 h2
            · rw [i6s]; exact (qm_ex_f (stk := [b]) hz eP (show qm_rf (nI 2) 1 b = 0 from qm_rf_ok ns (fun q9 => absurd q9 (by decide)) (fun _ => show 1 < 6 by decide)) (by decide) (by decide) ((qm_fe_2 (by omega) eX).trans (i4 32 0 (WB + j) (by omega) (by omega)).symm)).symm
          · have j2 : u 22 0 25 = nI (r.length + 2) := i2
            have j1 : r.length + 2 ≤ 6 := i1
            have m1 : u 22 0 25 - 1 = nI (r.length + 1) := by rw [j2]; exact nI_pred _
            have eb : u 42 0 (r.length + 1) = b := i3.1
            have m2 : u 22 0 25 - 2 = nI r.length := by rw [j2]; exact pk_sub (a := r.length + 2) (b := 2) (by omega)
            have ea : u 42 0 r.length = a := i3.2.1
            have ns : ¬ nI (r.length + 2) < qm_nee (nI 2) := by rw [show qm_nee (nI 2) = nI 0 from by decide]; exact nI_nlt (by omega) (by omega)
            refine lv_iload hx hb d_MD_play_8 (lv_at hl 0 rfl) ?_
            refine lv_aload_n hx hb d_MD_play_10 rfl (lv_at hl 1 rfl) ?_
            refine qa_get (k := 22) (i := 0) (f := 21) (val := .ref (qa_a y 39 0)) E hC Nat.one_pos rfl rfl (by decide) f_MD_58 rfl rfl d_MD_play_11 ?_
            refine lv_iload_n hx hb d_MD_play_14 rfl (lv_at hl 2 rfl) ?_
            refine qa_ild (k := 39) (i := 0) (j := t) E hC Nat.one_pos rfl rfl rfl ht d_MD_play_15 ?_
            refine lv_icmp_ge hx hb d_MD_play_16 rfl (fun h9 => absurd h9 (by rw [hq]; exact nI_ge hz (by omega))) (fun _ => ?_)
            refine lv_aload_n hx hb d_MD_play_19 rfl (lv_at hl 1 rfl) ?_
            refine qa_get (k := 22) (i := 0) (f := 19) (val := .ref (qa_a y 37 0)) E hC Nat.one_pos rfl rfl (by decide) f_MD_52 rfl rfl d_MD_play_20 ?_
            refine lv_bipush (v := 12) hx hb d_MD_play_23 (by decide) ?_
            refine lv_iload_n hx hb d_MD_play_25 rfl (lv_at hl 2 rfl) ?_
            refine lv_imul hx hb d_MD_play_26 ?_
            refine lv_iload hx hb d_MD_play_27 (lv_at hl 0 rfl) ?_
            refine lv_iadd hx hb d_MD_play_29 ?_
            refine qa_ild (k := 37) (i := 0) (j := ((12 * t) + pp)) E hC Nat.one_pos rfl rfl (qn_add (qn_mul rfl rfl) rfl) (show (12 * t) + pp < 48 by omega) d_MD_play_30 ?_
            rw [eo]
            refine lv_istore hx hb d_MD_play_31 hl (by decide) rfl (fun ls hl => ?_)
            have hl : lv_has ls 11 [(5, .int (nI 2)), (4, .int (nI pp)), (0, .ref (qa_a y 22 0)), (1, .int (nI t)), (2, .int (nI IB)), (3, .int (nI WB))] := hl
            refine lv_aload_n hx hb d_MD_play_33 rfl (lv_at hl 2 rfl) ?_
            refine qa_get (k := 22) (i := 0) (f := 20) (val := .ref (qa_a y 38 0)) E hC Nat.one_pos rfl rfl (by decide) f_MD_55 rfl rfl d_MD_play_34 ?_
            refine lv_bipush (v := 12) hx hb d_MD_play_37 (by decide) ?_
            refine lv_iload_n hx hb d_MD_play_39 rfl (lv_at hl 3 rfl) ?_
            refine lv_imul hx hb d_MD_play_40 ?_
            refine lv_iload hx hb d_MD_play_41 (lv_at hl 1 rfl) ?_
            refine lv_iadd hx hb d_MD_play_43 ?_
            refine qa_ild (k := 38) (i := 0) (j := ((12 * t) + pp)) E hC Nat.one_pos rfl rfl (qn_add (qn_mul rfl rfl) rfl) (show (12 * t) + pp < 48 by omega) d_MD_play_44 ?_
            rw [q38, eX]
            refine lv_istore hx hb d_MD_play_45 hl (by decide) rfl (fun ls hl => ?_)
            have hl : lv_has ls 11 [(6, .int (nI j)), (5, .int (nI 2)), (4, .int (nI pp)), (0, .ref (qa_a y 22 0)), (1, .int (nI t)), (2, .int (nI IB)), (3, .int (nI WB))] := hl
            refine lv_iinc (v := nI (pp + 1)) hx hb d_MD_play_47 hl (k := 2) rfl (nI_1 pp) (by decide) rfl (fun ls hl => ?_)
            have hl : lv_has ls 11 [(4, .int (nI (pp + 1))), (6, .int (nI j)), (5, .int (nI 2)), (0, .ref (qa_a y 22 0)), (1, .int (nI t)), (2, .int (nI IB)), (3, .int (nI WB))] := hl
            refine lv_iload hx hb d_MD_play_50 (lv_at hl 2 rfl) ?_
            refine lv_iconst (v := 3) hx hb d_MD_play_52 (by decide) ?_
            refine lv_icmp_ge hx hb d_MD_play_53 rfl (fun h9 => absurd h9 (by decide)) (fun _ => ?_)
            refine lv_iconst (v := 0) hx hb d_MD_play_56 (by decide) ?_
            refine lv_goto hx hb d_MD_play_57 rfl ?_
            refine lv_istore hx hb d_MD_play_72 hl (by decide) rfl (fun ls hl => ?_)
            have hl : lv_has ls 11 [(7, .int 0), (4, .int (nI (pp + 1))), (6, .int (nI j)), (5, .int (nI 2)), (0, .ref (qa_a y 22 0)), (1, .int (nI t)), (2, .int (nI IB)), (3, .int (nI WB))] := hl
            refine lv_aload_n hx hb d_MD_play_74 rfl (lv_at hl 4 rfl) ?_
            refine qa_get (k := 22) (i := 0) (f := 25) (val := .int (u 22 0 25)) E hC Nat.one_pos rfl rfl (by decide) f_MD_129 rfl rfl d_MD_play_75 ?_
            refine lv_iload hx hb d_MD_play_78 (lv_at hl 0 rfl) ?_
            refine lv_icmp_ge hx hb d_MD_play_80 rfl (fun _ => ?_) (fun h9 => absurd (by rw [j2]; exact nI_le (a := 0) (by omega) (by omega)) h9)
            refine lv_aload_n hx hb d_MD_play_86 rfl (lv_at hl 4 rfl) ?_
            refine qa_get (k := 22) (i := 0) (f := 25) (val := .int (u 22 0 25)) E hC Nat.one_pos rfl rfl (by decide) f_MD_129 rfl rfl d_MD_play_87 ?_
            refine lv_if_le hx hb d_MD_play_90 rfl (fun h9 => absurd h9 (by rw [j2]; exact nI_nle (by omega) (by omega))) (fun _ => ?_)
            refine lv_aload_n hx hb d_MD_play_93 rfl (lv_at hl 4 rfl) ?_
            refine qa_get (k := 22) (i := 0) (f := 24) (val := .ref (qa_a y 42 0)) E hC Nat.one_pos rfl rfl (by decide) f_MD_67 rfl rfl d_MD_play_94 ?_
            refine lv_aload_n hx hb d_MD_play_97 rfl (lv_at hl 4 rfl) ?_
            refine qa_get (k := 22) (i := 0) (f := 25) (val := .int (u 22 0 25)) E hC Nat.one_pos rfl rfl (by decide) f_MD_129 rfl rfl d_MD_play_98 ?_
            refine lv_iconst (v := 1) hx hb d_MD_play_101 (by decide) ?_
            refine lv_isub hx hb d_MD_play_102 ?_
            refine qa_ild (k := 42) (i := 0) (j := (r.length + 1)) E hC Nat.one_pos rfl rfl m1 (show r.length + 1 < 6 by omega) d_MD_play_103 ?_
            rw [eb]
            refine lv_goto hx hb d_MD_play_104 rfl ?_
            refine lv_istore hx hb d_MD_play_108 hl (by decide) rfl (fun ls hl => ?_)
            have hl : lv_has ls 11 [(8, .int b), (7, .int 0), (4, .int (nI (pp + 1))), (6, .int (nI j)), (5, .int (nI 2)), (0, .ref (qa_a y 22 0)), (1, .int (nI t)), (2, .int (nI IB)), (3, .int (nI WB))] := hl
            refine lv_aload_n hx hb d_MD_play_110 rfl (lv_at hl 5 rfl) ?_
            refine qa_get (k := 22) (i := 0) (f := 25) (val := .int (u 22 0 25)) E hC Nat.one_pos rfl rfl (by decide) f_MD_129 rfl rfl d_MD_play_111 ?_
            refine lv_iconst (v := 1) hx hb d_MD_play_114 (by decide) ?_
            refine lv_icmp_le hx hb d_MD_play_115 rfl (fun h9 => absurd h9 (by rw [j2]; exact nI_ge (b := (r.length + 2)) (a := 1) (by omega) (by omega))) (fun _ => ?_)
            refine lv_aload_n hx hb d_MD_play_118 rfl (lv_at hl 5 rfl) ?_
            refine qa_get (k := 22) (i := 0) (f := 24) (val := .ref (qa_a y 42 0)) E hC Nat.one_pos rfl rfl (by decide) f_MD_67 rfl rfl d_MD_play_119 ?_
            refine lv_aload_n hx hb d_MD_play_122 rfl (lv_at hl 5 rfl) ?_
            refine qa_get (k := 22) (i := 0) (f := 25) (val := .int (u 22 0 25)) E hC Nat.one_pos rfl rfl (by decide) f_MD_129 rfl rfl d_MD_play_123 ?_
            refine lv_iconst (v := 2) hx hb d_MD_play_126 (by decide) ?_
            refine lv_isub hx hb d_MD_play_127 ?_
            refine qa_ild (k := 42) (i := 0) (j := r.length) E hC Nat.one_pos rfl rfl m2 (show r.length < 6 by omega) d_MD_play_128 ?_
            rw [ea]
            refine lv_goto hx hb d_MD_play_129 rfl ?_
            refine lv_istore hx hb d_MD_play_133 hl (by decide) rfl (fun ls hl => ?_)
            have hl : lv_has ls 11 [(9, .int a), (8, .int b), (7, .int 0), (4, .int (nI (pp + 1))), (6, .int (nI j)), (5, .int (nI 2)), (0, .ref (qa_a y 22 0)), (1, .int (nI t)), (2, .int (nI IB)), (3, .int (nI WB))] := hl
            refine lv_iload hx hb d_MD_play_135 (lv_at hl 5 rfl) ?_
            refine lv_bipush (v := 6) hx hb d_MD_play_137 (by decide) ?_
            refine lv_icmp_ne hx hb d_MD_play_139 rfl (fun _ => ?_) (fun h9 => absurd h9 (by decide))
            refine lv_iload hx hb d_MD_play_150 (lv_at hl 5 rfl) ?_
            refine lv_iconst (v := 3) hx hb d_MD_play_152 (by decide) ?_
            refine lv_icmp_lt hx hb d_MD_play_153 rfl (fun _ => ?_) (fun h9 => absurd (by decide) h9)
            refine lv_aload_n hx hb d_MD_play_163 rfl (lv_at hl 6 rfl) ?_
            refine qa_get (k := 22) (i := 0) (f := 25) (val := .int (u 22 0 25)) E hC Nat.one_pos rfl rfl (by decide) f_MD_129 rfl rfl d_MD_play_164 ?_
            refine lv_bipush (v := 6) hx hb d_MD_play_167 (by decide) ?_
            refine lv_icmp_ne hx hb d_MD_play_169 rfl (fun h169 => ?_) (fun h169 => ?_)
            · refine lv_iload hx hb d_MD_play_175 (lv_at hl 5 rfl) ?_
              refine lv_bipush (v := 8) hx hb d_MD_play_177 (by decide) ?_
              refine lv_icmp_ne hx hb d_MD_play_179 rfl (fun _ => ?_) (fun h9 => absurd h9 (by decide))
              refine lv_iload hx hb d_MD_play_212 (lv_at hl 2 rfl) ?_
              refine lv_iconst (v := 2) hx hb d_MD_play_214 (by decide) ?_
              refine lv_icmp_ne hx hb d_MD_play_215 rfl (fun _ => ?_) (fun h9 => absurd h9 (by decide))
              refine lv_iload hx hb d_MD_play_248 (lv_at hl 5 rfl) ?_
              refine lv_if_ne hx hb d_MD_play_250 rfl (fun _ => ?_) (fun h9 => absurd h9 (by decide))
              refine lv_iload hx hb d_MD_play_258 (lv_at hl 5 rfl) ?_
              refine lv_iconst (v := 1) hx hb d_MD_play_260 (by decide) ?_
              refine lv_icmp_ne hx hb d_MD_play_261 rfl (fun _ => ?_) (fun h9 => absurd h9 (by decide))
              refine lv_iload hx hb d_MD_play_276 (lv_at hl 5 rfl) ?_
              refine lv_iconst (v := 2) hx hb d_MD_play_278 (by decide) ?_
              refine lv_icmp_ne hx hb d_MD_play_279 rfl (fun h9 => absurd (by decide) h9) (fun _ => ?_)
              refine lv_aload_n hx hb d_MD_play_282 rfl (lv_at hl 6 rfl) ?_
              refine qa_get (k := 22) (i := 0) (f := 14) (val := .ref (qa_a y 32 0)) E hC Nat.one_pos rfl rfl (by decide) f_MD_37 rfl rfl d_MD_play_283 ?_
              refine lv_iload_n hx hb d_MD_play_286 rfl (lv_at hl 9 rfl) ?_
              refine lv_iload hx hb d_MD_play_287 (lv_at hl 4 rfl) ?_
              refine lv_iadd hx hb d_MD_play_289 ?_
              refine qa_ild (k := 32) (i := 0) (j := (WB + j)) E hC Nat.one_pos rfl rfl (qn_add rfl rfl) (show WB + j < 32 by omega) d_MD_play_290 ?_
              refine lv_goto hx hb d_MD_play_291 rfl ?_
              refine lv_istore hx hb d_MD_play_296 hl (by decide) rfl (fun ls hl => ?_)
              have hl : lv_has ls 11 [(10, .int (u 32 0 (WB + j))), (9, .int a), (8, .int b), (7, .int 0), (4, .int (nI (pp + 1))), (6, .int (nI j)), (5, .int (nI 2)), (0, .ref (qa_a y 22 0)), (1, .int (nI t)), (2, .int (nI IB)), (3, .int (nI WB))] := hl
              refine lv_aload_n hx hb d_MD_play_298 rfl (lv_at hl 7 rfl) ?_
              refine lv_iload hx hb d_MD_play_299 (lv_at hl 0 rfl) ?_
              have d6 : r.length + 2 < 6 := by
                have z9 : ¬ nI (r.length + 2) = nI 6 := by rw [← j2]; exact h169
                rw [nI_eq (by omega) (by omega)] at z9
                omega
              refine qa_mVv (k := 22) (i := 0) (As := [.int (u 32 0 (WB + j))]) E hC (c_MD_push l y u (r.length + 2) (u 32 0 (WB + j)) j2 d6) Nat.one_pos rfl rfl k_MD_138 (qa_fitR (by decide) (by decide)) rfl hl.1 rfl (Nat.le_of_ble_eq_true rfl) d_MD_play_301 (fun u9 H locs hp9 hC => ?_)
              refine lv_goto hx hb d_MD_play_304 rfl ?_
              refine ih (pp + 1) u9 H locs ((u 32 0 (WB + j)) :: (b :: a :: r)) ls (by omega) (by omega) hC ⟨?_, ?_, ⟨?_, ?_⟩, ?_, ?_⟩ (lv_sub hl [4, 7, 8, 9, 10] rfl)
              · show (r.length + 2) + 1 ≤ 6; omega
              · rw [hp9]; exact qa_up_s
              · rw [hp9, qa_up_kk (by decide)]; exact qa_up_s
              · refine qm_st_n i3 (fun q hq => ?_)
                have hq : q < (r.length + 2) := hq
                rw [hp9, qa_up_kk (by decide), qa_up_f (by omega)]
              · intro c b8 f h1 h2; rw [hp9, qa_up_x (fun q9 => h1 ⟨q9.1, q9.2.2⟩), qa_up_k h2]; exact i4 c b8 f h1 h2
              · rw [i6s]; exact (qm_ex_f (stk := (b :: a :: r)) hz eP (show qm_rf (nI 2) (r.length + 2) b = 0 from qm_rf_ok ns (fun q9 => absurd q9 (by decide)) (fun _ => d6)) (by decide) (by decide) ((qm_fe_2 (by omega) eX).trans (i4 32 0 (WB + j) (by omega) (by omega)).symm)).symm
            · refine lv_ldc (v := -1000000002) hx hb hown (hts _ k_MD_134) d_MD_play_172 ?_
              exact qa_mret E hC hr hlocks ⟨by rw [i6s]; exact (qm_ex_r (stk := (b :: a :: r)) hz eP (show qm_rf (nI 2) (r.length + 2) b = -1000000002 from qm_rf_dp ns (by decide) (by decide) (by rw [← j2]; exact h169)) (by decide)).symm, i4⟩ d_MD_play_174
        · have eo : u 37 0 (12 * t + pp) = nI 3 := q37.trans eP
          rw [eP] at hok
          rcases stk with _ | ⟨b, _ | ⟨a, r⟩⟩
          · have j2 : u 22 0 25 = nI 0 := i2
            refine lv_iload hx hb d_MD_play_8 (lv_at hl 0 rfl) ?_
            refine lv_aload_n hx hb d_MD_play_10 rfl (lv_at hl 1 rfl) ?_
            refine qa_get (k := 22) (i := 0) (f := 21) (val := .ref (qa_a y 39 0)) E hC Nat.one_pos rfl rfl (by decide) f_MD_58 rfl rfl d_MD_play_11 ?_
            refine lv_iload_n hx hb d_MD_play_14 rfl (lv_at hl 2 rfl) ?_
            refine qa_ild (k := 39) (i := 0) (j := t) E hC Nat.one_pos rfl rfl rfl ht d_MD_play_15 ?_
            refine lv_icmp_ge hx hb d_MD_play_16 rfl (fun h9 => absurd h9 (by rw [hq]; exact nI_ge hz (by omega))) (fun _ => ?_)
            refine lv_aload_n hx hb d_MD_play_19 rfl (lv_at hl 1 rfl) ?_
            refine qa_get (k := 22) (i := 0) (f := 19) (val := .ref (qa_a y 37 0)) E hC Nat.one_pos rfl rfl (by decide) f_MD_52 rfl rfl d_MD_play_20 ?_
            refine lv_bipush (v := 12) hx hb d_MD_play_23 (by decide) ?_
            refine lv_iload_n hx hb d_MD_play_25 rfl (lv_at hl 2 rfl) ?_
            refine lv_imul hx hb d_MD_play_26 ?_
            refine lv_iload hx hb d_MD_play_27 (lv_at hl 0 rfl) ?_
            refine lv_iadd hx hb d_MD_play_29 ?_
            refine qa_ild (k := 37) (i := 0) (j := ((12 * t) + pp)) E hC Nat.one_pos rfl rfl (qn_add (qn_mul rfl rfl) rfl) (show (12 * t) + pp < 48 by omega) d_MD_play_30 ?_
            rw [eo]
            refine lv_istore hx hb d_MD_play_31 hl (by decide) rfl (fun ls hl => ?_)
            have hl : lv_has ls 11 [(5, .int (nI 3)), (4, .int (nI pp)), (0, .ref (qa_a y 22 0)), (1, .int (nI t)), (2, .int (nI IB)), (3, .int (nI WB))] := hl
            refine lv_aload_n hx hb d_MD_play_33 rfl (lv_at hl 2 rfl) ?_
            refine qa_get (k := 22) (i := 0) (f := 20) (val := .ref (qa_a y 38 0)) E hC Nat.one_pos rfl rfl (by decide) f_MD_55 rfl rfl d_MD_play_34 ?_
            refine lv_bipush (v := 12) hx hb d_MD_play_37 (by decide) ?_
            refine lv_iload_n hx hb d_MD_play_39 rfl (lv_at hl 3 rfl) ?_
            refine lv_imul hx hb d_MD_play_40 ?_
            refine lv_iload hx hb d_MD_play_41 (lv_at hl 1 rfl) ?_
            refine lv_iadd hx hb d_MD_play_43 ?_
            refine qa_ild (k := 38) (i := 0) (j := ((12 * t) + pp)) E hC Nat.one_pos rfl rfl (qn_add (qn_mul rfl rfl) rfl) (show (12 * t) + pp < 48 by omega) d_MD_play_44 ?_
            refine lv_istore hx hb d_MD_play_45 hl (by decide) rfl (fun ls hl => ?_)
            have hl : lv_has ls 11 [(6, .int (u 38 0 ((12 * t) + pp))), (5, .int (nI 3)), (4, .int (nI pp)), (0, .ref (qa_a y 22 0)), (1, .int (nI t)), (2, .int (nI IB)), (3, .int (nI WB))] := hl
            refine lv_iinc (v := nI (pp + 1)) hx hb d_MD_play_47 hl (k := 2) rfl (nI_1 pp) (by decide) rfl (fun ls hl => ?_)
            have hl : lv_has ls 11 [(4, .int (nI (pp + 1))), (6, .int (u 38 0 ((12 * t) + pp))), (5, .int (nI 3)), (0, .ref (qa_a y 22 0)), (1, .int (nI t)), (2, .int (nI IB)), (3, .int (nI WB))] := hl
            refine lv_iload hx hb d_MD_play_50 (lv_at hl 2 rfl) ?_
            refine lv_iconst (v := 3) hx hb d_MD_play_52 (by decide) ?_
            refine lv_icmp_ge hx hb d_MD_play_53 rfl (fun _ => ?_) (fun h9 => absurd (by decide) h9)
            refine lv_iload hx hb d_MD_play_60 (lv_at hl 2 rfl) ?_
            refine lv_bipush (v := 8) hx hb d_MD_play_62 (by decide) ?_
            refine lv_icmp_ge hx hb d_MD_play_64 rfl (fun h9 => absurd h9 (by decide)) (fun _ => ?_)
            refine lv_iconst (v := 2) hx hb d_MD_play_67 (by decide) ?_
            refine lv_goto hx hb d_MD_play_68 rfl ?_
            refine lv_istore hx hb d_MD_play_72 hl (by decide) rfl (fun ls hl => ?_)
            have hl : lv_has ls 11 [(7, .int 2), (4, .int (nI (pp + 1))), (6, .int (u 38 0 ((12 * t) + pp))), (5, .int (nI 3)), (0, .ref (qa_a y 22 0)), (1, .int (nI t)), (2, .int (nI IB)), (3, .int (nI WB))] := hl
            refine lv_aload_n hx hb d_MD_play_74 rfl (lv_at hl 4 rfl) ?_
            refine qa_get (k := 22) (i := 0) (f := 25) (val := .int (u 22 0 25)) E hC Nat.one_pos rfl rfl (by decide) f_MD_129 rfl rfl d_MD_play_75 ?_
            refine lv_iload hx hb d_MD_play_78 (lv_at hl 0 rfl) ?_
            refine lv_icmp_ge hx hb d_MD_play_80 rfl (fun h9 => absurd h9 (by rw [j2]; decide)) (fun _ => ?_)
            refine lv_ldc (v := -1000000001) hx hb hown (hts _ k_MD_132) d_MD_play_83 ?_
            exact qa_mret E hC hr hlocks ⟨by rw [i6s]; exact (qm_ex_r (stk := []) hz eP (show qm_rf (nI 3) 0 0 = -1000000001 from qm_rf_s (by decide)) (by decide)).symm, i4⟩ d_MD_play_85
          · have j2 : u 22 0 25 = nI 1 := i2
            have m1 : u 22 0 25 - 1 = nI 0 := by rw [j2]; exact nI_pred _
            have eb : u 42 0 0 = b := i3.1
            refine lv_iload hx hb d_MD_play_8 (lv_at hl 0 rfl) ?_
            refine lv_aload_n hx hb d_MD_play_10 rfl (lv_at hl 1 rfl) ?_
            refine qa_get (k := 22) (i := 0) (f := 21) (val := .ref (qa_a y 39 0)) E hC Nat.one_pos rfl rfl (by decide) f_MD_58 rfl rfl d_MD_play_11 ?_
            refine lv_iload_n hx hb d_MD_play_14 rfl (lv_at hl 2 rfl) ?_
            refine qa_ild (k := 39) (i := 0) (j := t) E hC Nat.one_pos rfl rfl rfl ht d_MD_play_15 ?_
            refine lv_icmp_ge hx hb d_MD_play_16 rfl (fun h9 => absurd h9 (by rw [hq]; exact nI_ge hz (by omega))) (fun _ => ?_)
            refine lv_aload_n hx hb d_MD_play_19 rfl (lv_at hl 1 rfl) ?_
            refine qa_get (k := 22) (i := 0) (f := 19) (val := .ref (qa_a y 37 0)) E hC Nat.one_pos rfl rfl (by decide) f_MD_52 rfl rfl d_MD_play_20 ?_
            refine lv_bipush (v := 12) hx hb d_MD_play_23 (by decide) ?_
            refine lv_iload_n hx hb d_MD_play_25 rfl (lv_at hl 2 rfl) ?_
            refine lv_imul hx hb d_MD_play_26 ?_
            refine lv_iload hx hb d_MD_play_27 (lv_at hl 0 rfl) ?_
            refine lv_iadd hx hb d_MD_play_29 ?_
            refine qa_ild (k := 37) (i := 0) (j := ((12 * t) + pp)) E hC Nat.one_pos rfl rfl (qn_add (qn_mul rfl rfl) rfl) (show (12 * t) + pp < 48 by omega) d_MD_play_30 ?_
            rw [eo]
            refine lv_istore hx hb d_MD_play_31 hl (by decide) rfl (fun ls hl => ?_)
            have hl : lv_has ls 11 [(5, .int (nI 3)), (4, .int (nI pp)), (0, .ref (qa_a y 22 0)), (1, .int (nI t)), (2, .int (nI IB)), (3, .int (nI WB))] := hl
            refine lv_aload_n hx hb d_MD_play_33 rfl (lv_at hl 2 rfl) ?_
            refine qa_get (k := 22) (i := 0) (f := 20) (val := .ref (qa_a y 38 0)) E hC Nat.one_pos rfl rfl (by decide) f_MD_55 rfl rfl d_MD_play_34 ?_
            refine lv_bipush (v := 12) hx hb d_MD_play_37 (by decide) ?_
            refine lv_iload_n hx hb d_MD_play_39 rfl (lv_at hl 3 rfl) ?_
            refine lv_imul hx hb d_MD_play_40 ?_
            refine lv_iload hx hb d_MD_play_41 (lv_at hl 1 rfl) ?_
            refine lv_iadd hx hb d_MD_play_43 ?_
            refine qa_ild (k := 38) (i := 0) (j := ((12 * t) + pp)) E hC Nat.one_pos rfl rfl (qn_add (qn_mul rfl rfl) rfl) (show (12 * t) + pp < 48 by omega) d_MD_play_44 ?_
            refine lv_istore hx hb d_MD_play_45 hl (by decide) rfl (fun ls hl => ?_)
            have hl : lv_has ls 11 [(6, .int (u 38 0 ((12 * t) + pp))), (5, .int (nI 3)), (4, .int (nI pp)), (0, .ref (qa_a y 22 0)), (1, .int (nI t)), (2, .int (nI IB)), (3, .int (nI WB))] := hl
            refine lv_iinc (v := nI (pp + 1)) hx hb d_MD_play_47 hl (k := 2) rfl (nI_1 pp) (by decide) rfl (fun ls hl => ?_)
            have hl : lv_has ls 11 [(4, .int (nI (pp + 1))), (6, .int (u 38 0 ((12 * t) + pp))), (5, .int (nI 3)), (0, .ref (qa_a y 22 0)), (1, .int (nI t)), (2, .int (nI IB)), (3, .int (nI WB))] := hl
            refine lv_iload hx hb d_MD_play_50 (lv_at hl 2 rfl) ?_
            refine lv_iconst (v := 3) hx hb d_MD_play_52 (by decide) ?_
            refine lv_icmp_ge hx hb d_MD_play_53 rfl (fun _ => ?_) (fun h9 => absurd (by decide) h9)
            refine lv_iload hx hb d_MD_play_60 (lv_at hl 2 rfl) ?_
            refine lv_bipush (v := 8) hx hb d_MD_play_62 (by decide) ?_
            refine lv_icmp_ge hx hb d_MD_play_64 rfl (fun h9 => absurd h9 (by decide)) (fun _ => ?_)
            refine lv_iconst (v := 2) hx hb d_MD_play_67 (by decide) ?_
            refine lv_goto hx hb d_MD_play_68 rfl ?_
            refine lv_istore hx hb d_MD_play_72 hl (by decide) rfl (fun ls hl => ?_)
            have hl : lv_has ls 11 [(7, .int 2), (4, .int (nI (pp + 1))), (6, .int (u 38 0 ((12 * t) + pp))), (5, .int (nI 3)), (0, .ref (qa_a y 22 0)), (1, .int (nI t)), (2, .int (nI IB)), (3, .int (nI WB))] := hl
            refine lv_aload_n hx hb d_MD_play_74 rfl (lv_at hl 4 rfl) ?_
            refine qa_get (k := 22) (i := 0) (f := 25) (val := .int (u 22 0 25)) E hC Nat.one_pos rfl rfl (by decide) f_MD_129 rfl rfl d_MD_play_75 ?_
            refine lv_iload hx hb d_MD_play_78 (lv_at hl 0 rfl) ?_
            refine lv_icmp_ge hx hb d_MD_play_80 rfl (fun h9 => absurd h9 (by rw [j2]; decide)) (fun _ => ?_)
            refine lv_ldc (v := -1000000001) hx hb hown (hts _ k_MD_132) d_MD_play_83 ?_
            exact qa_mret E hC hr hlocks ⟨by rw [i6s]; exact (qm_ex_r (stk := [b]) hz eP (show qm_rf (nI 3) 1 b = -1000000001 from qm_rf_s (by decide)) (by decide)).symm, i4⟩ d_MD_play_85
          · have j2 : u 22 0 25 = nI (r.length + 2) := i2
            have j1 : r.length + 2 ≤ 6 := i1
            have m1 : u 22 0 25 - 1 = nI (r.length + 1) := by rw [j2]; exact nI_pred _
            have eb : u 42 0 (r.length + 1) = b := i3.1
            have m2 : u 22 0 25 - 2 = nI r.length := by rw [j2]; exact pk_sub (a := r.length + 2) (b := 2) (by omega)
            have ea : u 42 0 r.length = a := i3.2.1
            have ns : ¬ nI (r.length + 2) < qm_nee (nI 3) := by rw [show qm_nee (nI 3) = nI 2 from by decide]; exact nI_nlt (by omega) (by omega)
            refine lv_iload hx hb d_MD_play_8 (lv_at hl 0 rfl) ?_
            refine lv_aload_n hx hb d_MD_play_10 rfl (lv_at hl 1 rfl) ?_
            refine qa_get (k := 22) (i := 0) (f := 21) (val := .ref (qa_a y 39 0)) E hC Nat.one_pos rfl rfl (by decide) f_MD_58 rfl rfl d_MD_play_11 ?_
            refine lv_iload_n hx hb d_MD_play_14 rfl (lv_at hl 2 rfl) ?_
            refine qa_ild (k := 39) (i := 0) (j := t) E hC Nat.one_pos rfl rfl rfl ht d_MD_play_15 ?_
            refine lv_icmp_ge hx hb d_MD_play_16 rfl (fun h9 => absurd h9 (by rw [hq]; exact nI_ge hz (by omega))) (fun _ => ?_)
            refine lv_aload_n hx hb d_MD_play_19 rfl (lv_at hl 1 rfl) ?_
            refine qa_get (k := 22) (i := 0) (f := 19) (val := .ref (qa_a y 37 0)) E hC Nat.one_pos rfl rfl (by decide) f_MD_52 rfl rfl d_MD_play_20 ?_
            refine lv_bipush (v := 12) hx hb d_MD_play_23 (by decide) ?_
            refine lv_iload_n hx hb d_MD_play_25 rfl (lv_at hl 2 rfl) ?_
            refine lv_imul hx hb d_MD_play_26 ?_
            refine lv_iload hx hb d_MD_play_27 (lv_at hl 0 rfl) ?_
            refine lv_iadd hx hb d_MD_play_29 ?_
            refine qa_ild (k := 37) (i := 0) (j := ((12 * t) + pp)) E hC Nat.one_pos rfl rfl (qn_add (qn_mul rfl rfl) rfl) (show (12 * t) + pp < 48 by omega) d_MD_play_30 ?_
            rw [eo]
            refine lv_istore hx hb d_MD_play_31 hl (by decide) rfl (fun ls hl => ?_)
            have hl : lv_has ls 11 [(5, .int (nI 3)), (4, .int (nI pp)), (0, .ref (qa_a y 22 0)), (1, .int (nI t)), (2, .int (nI IB)), (3, .int (nI WB))] := hl
            refine lv_aload_n hx hb d_MD_play_33 rfl (lv_at hl 2 rfl) ?_
            refine qa_get (k := 22) (i := 0) (f := 20) (val := .ref (qa_a y 38 0)) E hC Nat.one_pos rfl rfl (by decide) f_MD_55 rfl rfl d_MD_play_34 ?_
            refine lv_bipush (v := 12) hx hb d_MD_play_37 (by decide) ?_
            refine lv_iload_n hx hb d_MD_play_39 rfl (lv_at hl 3 rfl) ?_
            refine lv_imul hx hb d_MD_play_40 ?_
            refine lv_iload hx hb d_MD_play_41 (lv_at hl 1 rfl) ?_
            refine lv_iadd hx hb d_MD_play_43 ?_
            refine qa_ild (k := 38) (i := 0) (j := ((12 * t) + pp)) E hC Nat.one_pos rfl rfl (qn_add (qn_mul rfl rfl) rfl) (show (12 * t) + pp < 48 by omega) d_MD_play_44 ?_
            refine lv_istore hx hb d_MD_play_45 hl (by decide) rfl (fun ls hl => ?_)
            have hl : lv_has ls 11 [(6, .int (u 38 0 ((12 * t) + pp))), (5, .int (nI 3)), (4, .int (nI pp)), (0, .ref (qa_a y 22 0)), (1, .int (nI t)), (2, .int (nI IB)), (3, .int (nI WB))] := hl
            refine lv_iinc (v := nI (pp + 1)) hx hb d_MD_play_47 hl (k := 2) rfl (nI_1 pp) (by decide) rfl (fun ls hl => ?_)
            have hl : lv_has ls 11 [(4, .int (nI (pp + 1))), (6, .int (u 38 0 ((12 * t) + pp))), (5, .int (nI 3)), (0, .ref (qa_a y 22 0)), (1, .int (nI t)), (2, .int (nI IB)), (3, .int (nI WB))] := hl
            refine lv_iload hx hb d_MD_play_50 (lv_at hl 2 rfl) ?_
            refine lv_iconst (v := 3) hx hb d_MD_play_52 (by decide) ?_
            refine lv_icmp_ge hx hb d_MD_play_53 rfl (fun _ => ?_) (fun h9 => absurd (by decide) h9)
            refine lv_iload hx hb d_MD_play_60 (lv_at hl 2 rfl) ?_
            refine lv_bipush (v := 8) hx hb d_MD_play_62 (by decide) ?_
            refine lv_icmp_ge hx hb d_MD_play_64 rfl (fun h9 => absurd h9 (by decide)) (fun _ => ?_)
            refine lv_iconst (v := 2) hx hb d_MD_play_67 (by decide) ?_
            refine lv_goto hx hb d_MD_play_68 rfl ?_
            refine lv_istore hx hb d_MD_play_72 hl (by decide) rfl (fun ls hl => ?_)
            have hl : lv_has ls 11 [(7, .int 2), (4, .int (nI (pp + 1))), (6, .int (u 38 0 ((12 * t) + pp))), (5, .int (nI 3)), (0, .ref (qa_a y 22 0)), (1, .int (nI t)), (2, .int (nI IB)), (3, .int (nI WB))] := hl
            refine lv_aload_n hx hb d_MD_play_74 rfl (lv_at hl 4 rfl) ?_
            refine qa_get (k := 22) (i := 0) (f := 25) (val := .int (u 22 0 25)) E hC Nat.one_pos rfl rfl (by decide) f_MD_129 rfl rfl d_MD_play_75 ?_
            refine lv_iload hx hb d_MD_play_78 (lv_at hl 0 rfl) ?_
            refine lv_icmp_ge hx hb d_MD_play_80 rfl (fun _ => ?_) (fun h9 => absurd (by rw [j2]; exact nI_le (a := 2) (by omega) (by omega)) h9)
            refine lv_aload_n hx hb d_MD_play_86 rfl (lv_at hl 4 rfl) ?_
            refine qa_get (k := 22) (i := 0) (f := 25) (val := .int (u 22 0 25)) E hC Nat.one_pos rfl rfl (by decide) f_MD_129 rfl rfl d_MD_play_87 ?_
            refine lv_if_le hx hb d_MD_play_90 rfl (fun h9 => absurd h9 (by rw [j2]; exact nI_nle (by omega) (by omega))) (fun _ => ?_)
            refine lv_aload_n hx hb d_MD_play_93 rfl (lv_at hl 4 rfl) ?_
            refine qa_get (k := 22) (i := 0) (f := 24) (val := .ref (qa_a y 42 0)) E hC Nat.one_pos rfl rfl (by decide) f_MD_67 rfl rfl d_MD_play_94 ?_
            refine lv_aload_n hx hb d_MD_play_97 rfl (lv_at hl 4 rfl) ?_
            refine qa_get (k := 22) (i := 0) (f := 25) (val := .int (u 22 0 25)) E hC Nat.one_pos rfl rfl (by decide) f_MD_129 rfl rfl d_MD_play_98 ?_
            refine lv_iconst (v := 1) hx hb d_MD_play_101 (by decide) ?_
            refine lv_isub hx hb d_MD_play_102 ?_
            refine qa_ild (k := 42) (i := 0) (j := (r.length + 1)) E hC Nat.one_pos rfl rfl m1 (show r.length + 1 < 6 by omega) d_MD_play_103 ?_
            rw [eb]
            refine lv_goto hx hb d_MD_play_104 rfl ?_
            refine lv_istore hx hb d_MD_play_108 hl (by decide) rfl (fun ls hl => ?_)
            have hl : lv_has ls 11 [(8, .int b), (7, .int 2), (4, .int (nI (pp + 1))), (6, .int (u 38 0 ((12 * t) + pp))), (5, .int (nI 3)), (0, .ref (qa_a y 22 0)), (1, .int (nI t)), (2, .int (nI IB)), (3, .int (nI WB))] := hl
            refine lv_aload_n hx hb d_MD_play_110 rfl (lv_at hl 5 rfl) ?_
            refine qa_get (k := 22) (i := 0) (f := 25) (val := .int (u 22 0 25)) E hC Nat.one_pos rfl rfl (by decide) f_MD_129 rfl rfl d_MD_play_111 ?_
            refine lv_iconst (v := 1) hx hb d_MD_play_114 (by decide) ?_
            refine lv_icmp_le hx hb d_MD_play_115 rfl (fun h9 => absurd h9 (by rw [j2]; exact nI_ge (b := (r.length + 2)) (a := 1) (by omega) (by omega))) (fun _ => ?_)
            refine lv_aload_n hx hb d_MD_play_118 rfl (lv_at hl 5 rfl) ?_
            refine qa_get (k := 22) (i := 0) (f := 24) (val := .ref (qa_a y 42 0)) E hC Nat.one_pos rfl rfl (by decide) f_MD_67 rfl rfl d_MD_play_119 ?_
            refine lv_aload_n hx hb d_MD_play_122 rfl (lv_at hl 5 rfl) ?_
            refine qa_get (k := 22) (i := 0) (f := 25) (val := .int (u 22 0 25)) E hC Nat.one_pos rfl rfl (by decide) f_MD_129 rfl rfl d_MD_play_123 ?_
            refine lv_iconst (v := 2) hx hb d_MD_play_126 (by decide) ?_
            refine lv_isub hx hb d_MD_play_127 ?_
            refine qa_ild (k := 42) (i := 0) (j := r.length) E hC Nat.one_pos rfl rfl m2 (show r.length < 6 by omega) d_MD_play_128 ?_
            rw [ea]
            refine lv_goto hx hb d_MD_play_129 rfl ?_
            refine lv_istore hx hb d_MD_play_133 hl (by decide) rfl (fun ls hl => ?_)
            have hl : lv_has ls 11 [(9, .int a), (8, .int b), (7, .int 2), (4, .int (nI (pp + 1))), (6, .int (u 38 0 ((12 * t) + pp))), (5, .int (nI 3)), (0, .ref (qa_a y 22 0)), (1, .int (nI t)), (2, .int (nI IB)), (3, .int (nI WB))] := hl
            refine lv_iload hx hb d_MD_play_135 (lv_at hl 5 rfl) ?_
            refine lv_bipush (v := 6) hx hb d_MD_play_137 (by decide) ?_
            refine lv_icmp_ne hx hb d_MD_play_139 rfl (fun _ => ?_) (fun h9 => absurd h9 (by decide))
            refine lv_iload hx hb d_MD_play_150 (lv_at hl 5 rfl) ?_
            refine lv_iconst (v := 3) hx hb d_MD_play_152 (by decide) ?_
            refine lv_icmp_lt hx hb d_MD_play_153 rfl (fun h9 => absurd h9 (by decide)) (fun _ => ?_)
            refine lv_iload hx hb d_MD_play_156 (lv_at hl 5 rfl) ?_
            refine lv_bipush (v := 9) hx hb d_MD_play_158 (by decide) ?_
            refine lv_icmp_ne hx hb d_MD_play_160 rfl (fun _ => ?_) (fun h9 => absurd h9 (by decide))
            refine lv_iload hx hb d_MD_play_175 (lv_at hl 5 rfl) ?_
            refine lv_bipush (v := 8) hx hb d_MD_play_177 (by decide) ?_
            refine lv_icmp_ne hx hb d_MD_play_179 rfl (fun _ => ?_) (fun h9 => absurd h9 (by decide))
            refine lv_iload hx hb d_MD_play_212 (lv_at hl 2 rfl) ?_
            refine lv_iconst (v := 2) hx hb d_MD_play_214 (by decide) ?_
            refine lv_icmp_ne hx hb d_MD_play_215 rfl (fun h9 => absurd rfl h9) (fun _ => ?_)
            refine lv_iload hx hb d_MD_play_218 (lv_at hl 5 rfl) ?_
            refine lv_iload hx hb d_MD_play_220 (lv_at hl 0 rfl) ?_
            refine lv_iload hx hb d_MD_play_222 (lv_at hl 1 rfl) ?_
            refine qa_pT (As := [.int (nI 3), .int a, .int b]) F (c_MD_two l (nI 3) a b (fun q9 => absurd q9 (by decide))) k_MD_135 (qa_fitR (by decide) (by decide)) rfl hl.1 rfl (Nat.le_of_ble_eq_true rfl) d_MD_play_224 ?_
            refine lv_istore hx hb d_MD_play_227 hl (by decide) rfl (fun ls hl => ?_)
            have hl : lv_has ls 11 [(10, .int (qm_two (nI 3) a b)), (9, .int a), (8, .int b), (7, .int 2), (4, .int (nI (pp + 1))), (6, .int (u 38 0 ((12 * t) + pp))), (5, .int (nI 3)), (0, .ref (qa_a y 22 0)), (1, .int (nI t)), (2, .int (nI IB)), (3, .int (nI WB))] := hl
            refine lv_aload_n hx hb d_MD_play_229 rfl (lv_at hl 7 rfl) ?_
            refine lv_dup hx hb d_MD_play_230 rfl ?_
            refine qa_get (k := 22) (i := 0) (f := 25) (val := .int (u 22 0 25)) E hC Nat.one_pos rfl rfl (by decide) f_MD_129 rfl rfl d_MD_play_231 ?_
            refine lv_iconst (v := 2) hx hb d_MD_play_234 (by decide) ?_
            refine lv_isub hx hb d_MD_play_235 ?_
            rw [m2]
            refine qa_put (k := 22) (i := 0) (f := 25) E hC Nat.one_pos rfl rfl (by decide) f_MD_129 rfl rfl rfl rfl d_MD_play_236 (fun H locs hC => ?_)
            refine lv_aload_n hx hb d_MD_play_239 rfl (lv_at hl 7 rfl) ?_
            refine lv_iload hx hb d_MD_play_240 (lv_at hl 0 rfl) ?_
            have d2 : (qa_up u 22 0 25 (nI r.length)) 22 0 25 = nI r.length := qa_up_s
            refine qa_mVv (k := 22) (i := 0) (As := [.int (qm_two (nI 3) a b)]) E hC (c_MD_push l y (qa_up u 22 0 25 (nI r.length)) r.length (qm_two (nI 3) a b) d2 (by omega)) Nat.one_pos rfl rfl k_MD_138 (qa_fitR (by decide) (by decide)) rfl hl.1 rfl (Nat.le_of_ble_eq_true rfl) d_MD_play_242 (fun u10 H locs hp10 hC => ?_)
            refine lv_goto hx hb d_MD_play_245 rfl ?_
            refine lv_goto hx hb d_MD_play_304 rfl ?_
            refine ih (pp + 1) u10 H locs ((qm_two (nI 3) a b) :: r) ls (by omega) (by omega) hC ⟨?_, ?_, ⟨?_, ?_⟩, ?_, ?_⟩ (lv_sub hl [4, 7, 8, 9, 10] rfl)
            · show r.length + 1 ≤ 6; omega
            · rw [hp10]; exact qa_up_s
            · rw [hp10, qa_up_kk (by decide)]; exact qa_up_s
            · refine qm_st_n i3.2.2 (fun q hq => ?_)
              have hq : q < r.length := hq
              rw [hp10, qa_up_kk (by decide), qa_up_f (by omega), qa_up_kk (by decide)]
            · intro c b8 f h1 h2; rw [hp10, qa_up_x (fun q9 => h1 ⟨q9.1, q9.2.2⟩), qa_up_k h2, qa_up_x (fun q9 => h1 ⟨q9.1, q9.2.2⟩)]; exact i4 c b8 f h1 h2
            · rw [i6s]; exact (qm_ex_2 hz eP (show qm_rf (nI 3) (r.length + 2) b = 0 from qm_rf_ok ns (fun q9 => absurd q9 (by decide)) (fun q9 => absurd q9 (by decide))) (by decide) (by decide)).symm
        · have eo : u 37 0 (12 * t + pp) = nI 4 := q37.trans eP
          rw [eP] at hok
          rcases stk with _ | ⟨b, _ | ⟨a, r⟩⟩
          · have j2 : u 22 0 25 = nI 0 := i2
            refine lv_iload hx hb d_MD_play_8 (lv_at hl 0 rfl) ?_
            refine lv_aload_n hx hb d_MD_play_10 rfl (lv_at hl 1 rfl) ?_
            refine qa_get (k := 22) (i := 0) (f := 21) (val := .ref (qa_a y 39 0)) E hC Nat.one_pos rfl rfl (by decide) f_MD_58 rfl rfl d_MD_play_11 ?_
            refine lv_iload_n hx hb d_MD_play_14 rfl (lv_at hl 2 rfl) ?_
            refine qa_ild (k := 39) (i := 0) (j := t) E hC Nat.one_pos rfl rfl rfl ht d_MD_play_15 ?_
            refine lv_icmp_ge hx hb d_MD_play_16 rfl (fun h9 => absurd h9 (by rw [hq]; exact nI_ge hz (by omega))) (fun _ => ?_)
            refine lv_aload_n hx hb d_MD_play_19 rfl (lv_at hl 1 rfl) ?_
            refine qa_get (k := 22) (i := 0) (f := 19) (val := .ref (qa_a y 37 0)) E hC Nat.one_pos rfl rfl (by decide) f_MD_52 rfl rfl d_MD_play_20 ?_
            refine lv_bipush (v := 12) hx hb d_MD_play_23 (by decide) ?_
            refine lv_iload_n hx hb d_MD_play_25 rfl (lv_at hl 2 rfl) ?_
            refine lv_imul hx hb d_MD_play_26 ?_
            refine lv_iload hx hb d_MD_play_27 (lv_at hl 0 rfl) ?_
            refine lv_iadd hx hb d_MD_play_29 ?_
            refine qa_ild (k := 37) (i := 0) (j := ((12 * t) + pp)) E hC Nat.one_pos rfl rfl (qn_add (qn_mul rfl rfl) rfl) (show (12 * t) + pp < 48 by omega) d_MD_play_30 ?_
            rw [eo]
            refine lv_istore hx hb d_MD_play_31 hl (by decide) rfl (fun ls hl => ?_)
            have hl : lv_has ls 11 [(5, .int (nI 4)), (4, .int (nI pp)), (0, .ref (qa_a y 22 0)), (1, .int (nI t)), (2, .int (nI IB)), (3, .int (nI WB))] := hl
            refine lv_aload_n hx hb d_MD_play_33 rfl (lv_at hl 2 rfl) ?_
            refine qa_get (k := 22) (i := 0) (f := 20) (val := .ref (qa_a y 38 0)) E hC Nat.one_pos rfl rfl (by decide) f_MD_55 rfl rfl d_MD_play_34 ?_
            refine lv_bipush (v := 12) hx hb d_MD_play_37 (by decide) ?_
            refine lv_iload_n hx hb d_MD_play_39 rfl (lv_at hl 3 rfl) ?_
            refine lv_imul hx hb d_MD_play_40 ?_
            refine lv_iload hx hb d_MD_play_41 (lv_at hl 1 rfl) ?_
            refine lv_iadd hx hb d_MD_play_43 ?_
            refine qa_ild (k := 38) (i := 0) (j := ((12 * t) + pp)) E hC Nat.one_pos rfl rfl (qn_add (qn_mul rfl rfl) rfl) (show (12 * t) + pp < 48 by omega) d_MD_play_44 ?_
            refine lv_istore hx hb d_MD_play_45 hl (by decide) rfl (fun ls hl => ?_)
            have hl : lv_has ls 11 [(6, .int (u 38 0 ((12 * t) + pp))), (5, .int (nI 4)), (4, .int (nI pp)), (0, .ref (qa_a y 22 0)), (1, .int (nI t)), (2, .int (nI IB)), (3, .int (nI WB))] := hl
            refine lv_iinc (v := nI (pp + 1)) hx hb d_MD_play_47 hl (k := 2) rfl (nI_1 pp) (by decide) rfl (fun ls hl => ?_)
            have hl : lv_has ls 11 [(4, .int (nI (pp + 1))), (6, .int (u 38 0 ((12 * t) + pp))), (5, .int (nI 4)), (0, .ref (qa_a y 22 0)), (1, .int (nI t)), (2, .int (nI IB)), (3, .int (nI WB))] := hl
            refine lv_iload hx hb d_MD_play_50 (lv_at hl 2 rfl) ?_
            refine lv_iconst (v := 3) hx hb d_MD_play_52 (by decide) ?_
            refine lv_icmp_ge hx hb d_MD_play_53 rfl (fun _ => ?_) (fun h9 => absurd (by decide) h9)
            refine lv_iload hx hb d_MD_play_60 (lv_at hl 2 rfl) ?_
            refine lv_bipush (v := 8) hx hb d_MD_play_62 (by decide) ?_
            refine lv_icmp_ge hx hb d_MD_play_64 rfl (fun h9 => absurd h9 (by decide)) (fun _ => ?_)
            refine lv_iconst (v := 2) hx hb d_MD_play_67 (by decide) ?_
            refine lv_goto hx hb d_MD_play_68 rfl ?_
            refine lv_istore hx hb d_MD_play_72 hl (by decide) rfl (fun ls hl => ?_)
            have hl : lv_has ls 11 [(7, .int 2), (4, .int (nI (pp + 1))), (6, .int (u 38 0 ((12 * t) + pp))), (5, .int (nI 4)), (0, .ref (qa_a y 22 0)), (1, .int (nI t)), (2, .int (nI IB)), (3, .int (nI WB))] := hl
            refine lv_aload_n hx hb d_MD_play_74 rfl (lv_at hl 4 rfl) ?_
            refine qa_get (k := 22) (i := 0) (f := 25) (val := .int (u 22 0 25)) E hC Nat.one_pos rfl rfl (by decide) f_MD_129 rfl rfl d_MD_play_75 ?_
            refine lv_iload hx hb d_MD_play_78 (lv_at hl 0 rfl) ?_
            refine lv_icmp_ge hx hb d_MD_play_80 rfl (fun h9 => absurd h9 (by rw [j2]; decide)) (fun _ => ?_)
            refine lv_ldc (v := -1000000001) hx hb hown (hts _ k_MD_132) d_MD_play_83 ?_
            exact qa_mret E hC hr hlocks ⟨by rw [i6s]; exact (qm_ex_r (stk := []) hz eP (show qm_rf (nI 4) 0 0 = -1000000001 from qm_rf_s (by decide)) (by decide)).symm, i4⟩ d_MD_play_85
          · have j2 : u 22 0 25 = nI 1 := i2
            have m1 : u 22 0 25 - 1 = nI 0 := by rw [j2]; exact nI_pred _
            have eb : u 42 0 0 = b := i3.1
            refine lv_iload hx hb d_MD_play_8 (lv_at hl 0 rfl) ?_
            refine lv_aload_n hx hb d_MD_play_10 rfl (lv_at hl 1 rfl) ?_
            refine qa_get (k := 22) (i := 0) (f := 21) (val := .ref (qa_a y 39 0)) E hC Nat.one_pos rfl rfl (by decide) f_MD_58 rfl rfl d_MD_play_11 ?_
            refine lv_iload_n hx hb d_MD_play_14 rfl (lv_at hl 2 rfl) ?_
            refine qa_ild (k := 39) (i := 0) (j := t) E hC Nat.one_pos rfl rfl rfl ht d_MD_play_15 ?_
            refine lv_icmp_ge hx hb d_MD_play_16 rfl (fun h9 => absurd h9 (by rw [hq]; exact nI_ge hz (by omega))) (fun _ => ?_)
            refine lv_aload_n hx hb d_MD_play_19 rfl (lv_at hl 1 rfl) ?_
            refine qa_get (k := 22) (i := 0) (f := 19) (val := .ref (qa_a y 37 0)) E hC Nat.one_pos rfl rfl (by decide) f_MD_52 rfl rfl d_MD_play_20 ?_
            refine lv_bipush (v := 12) hx hb d_MD_play_23 (by decide) ?_
            refine lv_iload_n hx hb d_MD_play_25 rfl (lv_at hl 2 rfl) ?_
            refine lv_imul hx hb d_MD_play_26 ?_
            refine lv_iload hx hb d_MD_play_27 (lv_at hl 0 rfl) ?_
            refine lv_iadd hx hb d_MD_play_29 ?_
            refine qa_ild (k := 37) (i := 0) (j := ((12 * t) + pp)) E hC Nat.one_pos rfl rfl (qn_add (qn_mul rfl rfl) rfl) (show (12 * t) + pp < 48 by omega) d_MD_play_30 ?_
            rw [eo]
            refine lv_istore hx hb d_MD_play_31 hl (by decide) rfl (fun ls hl => ?_)
            have hl : lv_has ls 11 [(5, .int (nI 4)), (4, .int (nI pp)), (0, .ref (qa_a y 22 0)), (1, .int (nI t)), (2, .int (nI IB)), (3, .int (nI WB))] := hl
            refine lv_aload_n hx hb d_MD_play_33 rfl (lv_at hl 2 rfl) ?_
            refine qa_get (k := 22) (i := 0) (f := 20) (val := .ref (qa_a y 38 0)) E hC Nat.one_pos rfl rfl (by decide) f_MD_55 rfl rfl d_MD_play_34 ?_
            refine lv_bipush (v := 12) hx hb d_MD_play_37 (by decide) ?_
            refine lv_iload_n hx hb d_MD_play_39 rfl (lv_at hl 3 rfl) ?_
            refine lv_imul hx hb d_MD_play_40 ?_
            refine lv_iload hx hb d_MD_play_41 (lv_at hl 1 rfl) ?_
            refine lv_iadd hx hb d_MD_play_43 ?_
            refine qa_ild (k := 38) (i := 0) (j := ((12 * t) + pp)) E hC Nat.one_pos rfl rfl (qn_add (qn_mul rfl rfl) rfl) (show (12 * t) + pp < 48 by omega) d_MD_play_44 ?_
            refine lv_istore hx hb d_MD_play_45 hl (by decide) rfl (fun ls hl => ?_)
            have hl : lv_has ls 11 [(6, .int (u 38 0 ((12 * t) + pp))), (5, .int (nI 4)), (4, .int (nI pp)), (0, .ref (qa_a y 22 0)), (1, .int (nI t)), (2, .int (nI IB)), (3, .int (nI WB))] := hl
            refine lv_iinc (v := nI (pp + 1)) hx hb d_MD_play_47 hl (k := 2) rfl (nI_1 pp) (by decide) rfl (fun ls hl => ?_)
            have hl : lv_has ls 11 [(4, .int (nI (pp + 1))), (6, .int (u 38 0 ((12 * t) + pp))), (5, .int (nI 4)), (0, .ref (qa_a y 22 0)), (1, .int (nI t)), (2, .int (nI IB)), (3, .int (nI WB))] := hl
            refine lv_iload hx hb d_MD_play_50 (lv_at hl 2 rfl) ?_
            refine lv_iconst (v := 3) hx hb d_MD_play_52 (by decide) ?_
            refine lv_icmp_ge hx hb d_MD_play_53 rfl (fun _ => ?_) (fun h9 => absurd (by decide) h9)
            refine lv_iload hx hb d_MD_play_60 (lv_at hl 2 rfl) ?_
            refine lv_bipush (v := 8) hx hb d_MD_play_62 (by decide) ?_
            refine lv_icmp_ge hx hb d_MD_play_64 rfl (fun h9 => absurd h9 (by decide)) (fun _ => ?_)
            refine lv_iconst (v := 2) hx hb d_MD_play_67 (by decide) ?_
            refine lv_goto hx hb d_MD_play_68 rfl ?_
            refine lv_istore hx hb d_MD_play_72 hl (by decide) rfl (fun ls hl => ?_)
            have hl : lv_has ls 11 [(7, .int 2), (4, .int (nI (pp + 1))), (6, .int (u 38 0 ((12 * t) + pp))), (5, .int (nI 4)), (0, .ref (qa_a y 22 0)), (1, .int (nI t)), (2, .int (nI IB)), (3, .int (nI WB))] := hl
            refine lv_aload_n hx hb d_MD_play_74 rfl (lv_at hl 4 rfl) ?_
            refine qa_get (k := 22) (i := 0) (f := 25) (val := .int (u 22 0 25)) E hC Nat.one_pos rfl rfl (by decide) f_MD_129 rfl rfl d_MD_play_75 ?_
            refine lv_iload hx hb d_MD_play_78 (lv_at hl 0 rfl) ?_
            refine lv_icmp_ge hx hb d_MD_play_80 rfl (fun h9 => absurd h9 (by rw [j2]; decide)) (fun _ => ?_)
            refine lv_ldc (v := -1000000001) hx hb hown (hts _ k_MD_132) d_MD_play_83 ?_
            exact qa_mret E hC hr hlocks ⟨by rw [i6s]; exact (qm_ex_r (stk := [b]) hz eP (show qm_rf (nI 4) 1 b = -1000000001 from qm_rf_s (by decide)) (by decide)).symm, i4⟩ d_MD_play_85
          · have j2 : u 22 0 25 = nI (r.length + 2) := i2
            have j1 : r.length + 2 ≤ 6 := i1
            have m1 : u 22 0 25 - 1 = nI (r.length + 1) := by rw [j2]; exact nI_pred _
            have eb : u 42 0 (r.length + 1) = b := i3.1
            have m2 : u 22 0 25 - 2 = nI r.length := by rw [j2]; exact pk_sub (a := r.length + 2) (b := 2) (by omega)
            have ea : u 42 0 r.length = a := i3.2.1
            have ns : ¬ nI (r.length + 2) < qm_nee (nI 4) := by rw [show qm_nee (nI 4) = nI 2 from by decide]; exact nI_nlt (by omega) (by omega)
            refine lv_iload hx hb d_MD_play_8 (lv_at hl 0 rfl) ?_
            refine lv_aload_n hx hb d_MD_play_10 rfl (lv_at hl 1 rfl) ?_
            refine qa_get (k := 22) (i := 0) (f := 21) (val := .ref (qa_a y 39 0)) E hC Nat.one_pos rfl rfl (by decide) f_MD_58 rfl rfl d_MD_play_11 ?_
            refine lv_iload_n hx hb d_MD_play_14 rfl (lv_at hl 2 rfl) ?_
            refine qa_ild (k := 39) (i := 0) (j := t) E hC Nat.one_pos rfl rfl rfl ht d_MD_play_15 ?_
            refine lv_icmp_ge hx hb d_MD_play_16 rfl (fun h9 => absurd h9 (by rw [hq]; exact nI_ge hz (by omega))) (fun _ => ?_)
            refine lv_aload_n hx hb d_MD_play_19 rfl (lv_at hl 1 rfl) ?_
            refine qa_get (k := 22) (i := 0) (f := 19) (val := .ref (qa_a y 37 0)) E hC Nat.one_pos rfl rfl (by decide) f_MD_52 rfl rfl d_MD_play_20 ?_
            refine lv_bipush (v := 12) hx hb d_MD_play_23 (by decide) ?_
            refine lv_iload_n hx hb d_MD_play_25 rfl (lv_at hl 2 rfl) ?_
            refine lv_imul hx hb d_MD_play_26 ?_
            refine lv_iload hx hb d_MD_play_27 (lv_at hl 0 rfl) ?_
            refine lv_iadd hx hb d_MD_play_29 ?_
            refine qa_ild (k := 37) (i := 0) (j := ((12 * t) + pp)) E hC Nat.one_pos rfl rfl (qn_add (qn_mul rfl rfl) rfl) (show (12 * t) + pp < 48 by omega) d_MD_play_30 ?_
            rw [eo]
            refine lv_istore hx hb d_MD_play_31 hl (by decide) rfl (fun ls hl => ?_)
            have hl : lv_has ls 11 [(5, .int (nI 4)), (4, .int (nI pp)), (0, .ref (qa_a y 22 0)), (1, .int (nI t)), (2, .int (nI IB)), (3, .int (nI WB))] := hl
            refine lv_aload_n hx hb d_MD_play_33 rfl (lv_at hl 2 rfl) ?_
            refine qa_get (k := 22) (i := 0) (f := 20) (val := .ref (qa_a y 38 0)) E hC Nat.one_pos rfl rfl (by decide) f_MD_55 rfl rfl d_MD_play_34 ?_
            refine lv_bipush (v := 12) hx hb d_MD_play_37 (by decide) ?_
            refine lv_iload_n hx hb d_MD_play_39 rfl (lv_at hl 3 rfl) ?_
            refine lv_imul hx hb d_MD_play_40 ?_
            refine lv_iload hx hb d_MD_play_41 (lv_at hl 1 rfl) ?_
            refine lv_iadd hx hb d_MD_play_43 ?_
            refine qa_ild (k := 38) (i := 0) (j := ((12 * t) + pp)) E hC Nat.one_pos rfl rfl (qn_add (qn_mul rfl rfl) rfl) (show (12 * t) + pp < 48 by omega) d_MD_play_44 ?_
            refine lv_istore hx hb d_MD_play_45 hl (by decide) rfl (fun ls hl => ?_)
            have hl : lv_has ls 11 [(6, .int (u 38 0 ((12 * t) + pp))), (5, .int (nI 4)), (4, .int (nI pp)), (0, .ref (qa_a y 22 0)), (1, .int (nI t)), (2, .int (nI IB)), (3, .int (nI WB))] := hl
            refine lv_iinc (v := nI (pp + 1)) hx hb d_MD_play_47 hl (k := 2) rfl (nI_1 pp) (by decide) rfl (fun ls hl => ?_)
            have hl : lv_has ls 11 [(4, .int (nI (pp + 1))), (6, .int (u 38 0 ((12 * t) + pp))), (5, .int (nI 4)), (0, .ref (qa_a y 22 0)), (1, .int (nI t)), (2, .int (nI IB)), (3, .int (nI WB))] := hl
            refine lv_iload hx hb d_MD_play_50 (lv_at hl 2 rfl) ?_
            refine lv_iconst (v := 3) hx hb d_MD_play_52 (by decide) ?_
            refine lv_icmp_ge hx hb d_MD_play_53 rfl (fun _ => ?_) (fun h9 => absurd (by decide) h9)
            refine lv_iload hx hb d_MD_play_60 (lv_at hl 2 rfl) ?_
            refine lv_bipush (v := 8) hx hb d_MD_play_62 (by decide) ?_
            refine lv_icmp_ge hx hb d_MD_play_64 rfl (fun h9 => absurd h9 (by decide)) (fun _ => ?_)
            refine lv_iconst (v := 2) hx hb d_MD_play_67 (by decide) ?_
            refine lv_goto hx hb d_MD_play_68 rfl ?_
            refine lv_istore hx hb d_MD_play_72 hl (by decide) rfl (fun ls hl => ?_)
            have hl : lv_has ls 11 [(7, .int 2), (4, .int (nI (pp + 1))), (6, .int (u 38 0 ((12 * t) + pp))), (5, .int (nI 4)), (0, .ref (qa_a y 22 0)), (1, .int (nI t)), (2, .int (nI IB)), (3, .int (nI WB))] := hl
            refine lv_aload_n hx hb d_MD_play_74 rfl (lv_at hl 4 rfl) ?_
            refine qa_get (k := 22) (i := 0) (f := 25) (val := .int (u 22 0 25)) E hC Nat.one_pos rfl rfl (by decide) f_MD_129 rfl rfl d_MD_play_75 ?_
            refine lv_iload hx hb d_MD_play_78 (lv_at hl 0 rfl) ?_
            refine lv_icmp_ge hx hb d_MD_play_80 rfl (fun _ => ?_) (fun h9 => absurd (by rw [j2]; exact nI_le (a := 2) (by omega) (by omega)) h9)
            refine lv_aload_n hx hb d_MD_play_86 rfl (lv_at hl 4 rfl) ?_
            refine qa_get (k := 22) (i := 0) (f := 25) (val := .int (u 22 0 25)) E hC Nat.one_pos rfl rfl (by decide) f_MD_129 rfl rfl d_MD_play_87 ?_
            refine lv_if_le hx hb d_MD_play_90 rfl (fun h9 => absurd h9 (by rw [j2]; exact nI_nle (by omega) (by omega))) (fun _ => ?_)
            refine lv_aload_n hx hb d_MD_play_93 rfl (lv_at hl 4 rfl) ?_
            refine qa_get (k := 22) (i := 0) (f := 24) (val := .ref (qa_a y 42 0)) E hC Nat.one_pos rfl rfl (by decide) f_MD_67 rfl rfl d_MD_play_94 ?_
            refine lv_aload_n hx hb d_MD_play_97 rfl (lv_at hl 4 rfl) ?_
            refine qa_get (k := 22) (i := 0) (f := 25) (val := .int (u 22 0 25)) E hC Nat.one_pos rfl rfl (by decide) f_MD_129 rfl rfl d_MD_play_98 ?_
            refine lv_iconst (v := 1) hx hb d_MD_play_101 (by decide) ?_
            refine lv_isub hx hb d_MD_play_102 ?_
            refine qa_ild (k := 42) (i := 0) (j := (r.length + 1)) E hC Nat.one_pos rfl rfl m1 (show r.length + 1 < 6 by omega) d_MD_play_103 ?_
            rw [eb]
            refine lv_goto hx hb d_MD_play_104 rfl ?_
            refine lv_istore hx hb d_MD_play_108 hl (by decide) rfl (fun ls hl => ?_)
            have hl : lv_has ls 11 [(8, .int b), (7, .int 2), (4, .int (nI (pp + 1))), (6, .int (u 38 0 ((12 * t) + pp))), (5, .int (nI 4)), (0, .ref (qa_a y 22 0)), (1, .int (nI t)), (2, .int (nI IB)), (3, .int (nI WB))] := hl
            refine lv_aload_n hx hb d_MD_play_110 rfl (lv_at hl 5 rfl) ?_
            refine qa_get (k := 22) (i := 0) (f := 25) (val := .int (u 22 0 25)) E hC Nat.one_pos rfl rfl (by decide) f_MD_129 rfl rfl d_MD_play_111 ?_
            refine lv_iconst (v := 1) hx hb d_MD_play_114 (by decide) ?_
            refine lv_icmp_le hx hb d_MD_play_115 rfl (fun h9 => absurd h9 (by rw [j2]; exact nI_ge (b := (r.length + 2)) (a := 1) (by omega) (by omega))) (fun _ => ?_)
            refine lv_aload_n hx hb d_MD_play_118 rfl (lv_at hl 5 rfl) ?_
            refine qa_get (k := 22) (i := 0) (f := 24) (val := .ref (qa_a y 42 0)) E hC Nat.one_pos rfl rfl (by decide) f_MD_67 rfl rfl d_MD_play_119 ?_
            refine lv_aload_n hx hb d_MD_play_122 rfl (lv_at hl 5 rfl) ?_
            refine qa_get (k := 22) (i := 0) (f := 25) (val := .int (u 22 0 25)) E hC Nat.one_pos rfl rfl (by decide) f_MD_129 rfl rfl d_MD_play_123 ?_
            refine lv_iconst (v := 2) hx hb d_MD_play_126 (by decide) ?_
            refine lv_isub hx hb d_MD_play_127 ?_
            refine qa_ild (k := 42) (i := 0) (j := r.length) E hC Nat.one_pos rfl rfl m2 (show r.length < 6 by omega) d_MD_play_128 ?_
            rw [ea]
            refine lv_goto hx hb d_MD_play_129 rfl ?_
            refine lv_istore hx hb d_MD_play_133 hl (by decide) rfl (fun ls hl => ?_)
            have hl : lv_has ls 11 [(9, .int a), (8, .int b), (7, .int 2), (4, .int (nI (pp + 1))), (6, .int (u 38 0 ((12 * t) + pp))), (5, .int (nI 4)), (0, .ref (qa_a y 22 0)), (1, .int (nI t)), (2, .int (nI IB)), (3, .int (nI WB))] := hl
            refine lv_iload hx hb d_MD_play_135 (lv_at hl 5 rfl) ?_
            refine lv_bipush (v := 6) hx hb d_MD_play_137 (by decide) ?_
            refine lv_icmp_ne hx hb d_MD_play_139 rfl (fun _ => ?_) (fun h9 => absurd h9 (by decide))
            refine lv_iload hx hb d_MD_play_150 (lv_at hl 5 rfl) ?_
            refine lv_iconst (v := 3) hx hb d_MD_play_152 (by decide) ?_
            refine lv_icmp_lt hx hb d_MD_play_153 rfl (fun h9 => absurd h9 (by decide)) (fun _ => ?_)
            refine lv_iload hx hb d_MD_play_156 (lv_at hl 5 rfl) ?_
            refine lv_bipush (v := 9) hx hb d_MD_play_158 (by decide) ?_
            refine lv_icmp_ne hx hb d_MD_play_160 rfl (fun _ => ?_) (fun h9 => absurd h9 (by decide))
            refine lv_iload hx hb d_MD_play_175 (lv_at hl 5 rfl) ?_
            refine lv_bipush (v := 8) hx hb d_MD_play_177 (by decide) ?_
            refine lv_icmp_ne hx hb d_MD_play_179 rfl (fun _ => ?_) (fun h9 => absurd h9 (by decide))
            refine lv_iload hx hb d_MD_play_212 (lv_at hl 2 rfl) ?_
            refine lv_iconst (v := 2) hx hb d_MD_play_214 (by decide) ?_
            refine lv_icmp_ne hx hb d_MD_play_215 rfl (fun h9 => absurd rfl h9) (fun _ => ?_)
            refine lv_iload hx hb d_MD_play_218 (lv_at hl 5 rfl) ?_
            refine lv_iload hx hb d_MD_play_220 (lv_at hl 0 rfl) ?_
            refine lv_iload hx hb d_MD_play_222 (lv_at hl 1 rfl) ?_
            refine qa_pT (As := [.int (nI 4), .int a, .int b]) F (c_MD_two l (nI 4) a b (fun q9 => absurd q9 (by decide))) k_MD_135 (qa_fitR (by decide) (by decide)) rfl hl.1 rfl (Nat.le_of_ble_eq_true rfl) d_MD_play_224 ?_
            refine lv_istore hx hb d_MD_play_227 hl (by decide) rfl (fun ls hl => ?_)
            have hl : lv_has ls 11 [(10, .int (qm_two (nI 4) a b)), (9, .int a), (8, .int b), (7, .int 2), (4, .int (nI (pp + 1))), (6, .int (u 38 0 ((12 * t) + pp))), (5, .int (nI 4)), (0, .ref (qa_a y 22 0)), (1, .int (nI t)), (2, .int (nI IB)), (3, .int (nI WB))] := hl
            refine lv_aload_n hx hb d_MD_play_229 rfl (lv_at hl 7 rfl) ?_
            refine lv_dup hx hb d_MD_play_230 rfl ?_
            refine qa_get (k := 22) (i := 0) (f := 25) (val := .int (u 22 0 25)) E hC Nat.one_pos rfl rfl (by decide) f_MD_129 rfl rfl d_MD_play_231 ?_
            refine lv_iconst (v := 2) hx hb d_MD_play_234 (by decide) ?_
            refine lv_isub hx hb d_MD_play_235 ?_
            rw [m2]
            refine qa_put (k := 22) (i := 0) (f := 25) E hC Nat.one_pos rfl rfl (by decide) f_MD_129 rfl rfl rfl rfl d_MD_play_236 (fun H locs hC => ?_)
            refine lv_aload_n hx hb d_MD_play_239 rfl (lv_at hl 7 rfl) ?_
            refine lv_iload hx hb d_MD_play_240 (lv_at hl 0 rfl) ?_
            have d2 : (qa_up u 22 0 25 (nI r.length)) 22 0 25 = nI r.length := qa_up_s
            refine qa_mVv (k := 22) (i := 0) (As := [.int (qm_two (nI 4) a b)]) E hC (c_MD_push l y (qa_up u 22 0 25 (nI r.length)) r.length (qm_two (nI 4) a b) d2 (by omega)) Nat.one_pos rfl rfl k_MD_138 (qa_fitR (by decide) (by decide)) rfl hl.1 rfl (Nat.le_of_ble_eq_true rfl) d_MD_play_242 (fun u11 H locs hp11 hC => ?_)
            refine lv_goto hx hb d_MD_play_245 rfl ?_
            refine lv_goto hx hb d_MD_play_304 rfl ?_
            refine ih (pp + 1) u11 H locs ((qm_two (nI 4) a b) :: r) ls (by omega) (by omega) hC ⟨?_, ?_, ⟨?_, ?_⟩, ?_, ?_⟩ (lv_sub hl [4, 7, 8, 9, 10] rfl)
            · show r.length + 1 ≤ 6; omega
            · rw [hp11]; exact qa_up_s
            · rw [hp11, qa_up_kk (by decide)]; exact qa_up_s
            · refine qm_st_n i3.2.2 (fun q hq => ?_)
              have hq : q < r.length := hq
              rw [hp11, qa_up_kk (by decide), qa_up_f (by omega), qa_up_kk (by decide)]
            · intro c b8 f h1 h2; rw [hp11, qa_up_x (fun q9 => h1 ⟨q9.1, q9.2.2⟩), qa_up_k h2, qa_up_x (fun q9 => h1 ⟨q9.1, q9.2.2⟩)]; exact i4 c b8 f h1 h2
            · rw [i6s]; exact (qm_ex_2 hz eP (show qm_rf (nI 4) (r.length + 2) b = 0 from qm_rf_ok ns (fun q9 => absurd q9 (by decide)) (fun q9 => absurd q9 (by decide))) (by decide) (by decide)).symm
        · have eo : u 37 0 (12 * t + pp) = nI 5 := q37.trans eP
          rw [eP] at hok
          rcases stk with _ | ⟨b, _ | ⟨a, r⟩⟩
          · have j2 : u 22 0 25 = nI 0 := i2
            refine lv_iload hx hb d_MD_play_8 (lv_at hl 0 rfl) ?_
            refine lv_aload_n hx hb d_MD_play_10 rfl (lv_at hl 1 rfl) ?_
            refine qa_get (k := 22) (i := 0) (f := 21) (val := .ref (qa_a y 39 0)) E hC Nat.one_pos rfl rfl (by decide) f_MD_58 rfl rfl d_MD_play_11 ?_
            refine lv_iload_n hx hb d_MD_play_14 rfl (lv_at hl 2 rfl) ?_
            refine qa_ild (k := 39) (i := 0) (j := t) E hC Nat.one_pos rfl rfl rfl ht d_MD_play_15 ?_
            refine lv_icmp_ge hx hb d_MD_play_16 rfl (fun h9 => absurd h9 (by rw [hq]; exact nI_ge hz (by omega))) (fun _ => ?_)
            refine lv_aload_n hx hb d_MD_play_19 rfl (lv_at hl 1 rfl) ?_
            refine qa_get (k := 22) (i := 0) (f := 19) (val := .ref (qa_a y 37 0)) E hC Nat.one_pos rfl rfl (by decide) f_MD_52 rfl rfl d_MD_play_20 ?_
            refine lv_bipush (v := 12) hx hb d_MD_play_23 (by decide) ?_
            refine lv_iload_n hx hb d_MD_play_25 rfl (lv_at hl 2 rfl) ?_
            refine lv_imul hx hb d_MD_play_26 ?_
            refine lv_iload hx hb d_MD_play_27 (lv_at hl 0 rfl) ?_
            refine lv_iadd hx hb d_MD_play_29 ?_
            refine qa_ild (k := 37) (i := 0) (j := ((12 * t) + pp)) E hC Nat.one_pos rfl rfl (qn_add (qn_mul rfl rfl) rfl) (show (12 * t) + pp < 48 by omega) d_MD_play_30 ?_
            rw [eo]
            refine lv_istore hx hb d_MD_play_31 hl (by decide) rfl (fun ls hl => ?_)
            have hl : lv_has ls 11 [(5, .int (nI 5)), (4, .int (nI pp)), (0, .ref (qa_a y 22 0)), (1, .int (nI t)), (2, .int (nI IB)), (3, .int (nI WB))] := hl
            refine lv_aload_n hx hb d_MD_play_33 rfl (lv_at hl 2 rfl) ?_
            refine qa_get (k := 22) (i := 0) (f := 20) (val := .ref (qa_a y 38 0)) E hC Nat.one_pos rfl rfl (by decide) f_MD_55 rfl rfl d_MD_play_34 ?_
            refine lv_bipush (v := 12) hx hb d_MD_play_37 (by decide) ?_
            refine lv_iload_n hx hb d_MD_play_39 rfl (lv_at hl 3 rfl) ?_
            refine lv_imul hx hb d_MD_play_40 ?_
            refine lv_iload hx hb d_MD_play_41 (lv_at hl 1 rfl) ?_
            refine lv_iadd hx hb d_MD_play_43 ?_
            refine qa_ild (k := 38) (i := 0) (j := ((12 * t) + pp)) E hC Nat.one_pos rfl rfl (qn_add (qn_mul rfl rfl) rfl) (show (12 * t) + pp < 48 by omega) d_MD_play_44 ?_
            refine lv_istore hx hb d_MD_play_45 hl (by decide) rfl (fun ls hl => ?_)
            have hl : lv_has ls 11 [(6, .int (u 38 0 ((12 * t) + pp))), (5, .int (nI 5)), (4, .int (nI pp)), (0, .ref (qa_a y 22 0)), (1, .int (nI t)), (2, .int (nI IB)), (3, .int (nI WB))] := hl
            refine lv_iinc (v := nI (pp + 1)) hx hb d_MD_play_47 hl (k := 2) rfl (nI_1 pp) (by decide) rfl (fun ls hl => ?_)
            have hl : lv_has ls 11 [(4, .int (nI (pp + 1))), (6, .int (u 38 0 ((12 * t) + pp))), (5, .int (nI 5)), (0, .ref (qa_a y 22 0)), (1, .int (nI t)), (2, .int (nI IB)), (3, .int (nI WB))] := hl
            refine lv_iload hx hb d_MD_play_50 (lv_at hl 2 rfl) ?_
            refine lv_iconst (v := 3) hx hb d_MD_play_52 (by decide) ?_
            refine lv_icmp_ge hx hb d_MD_play_53 rfl (fun _ => ?_) (fun h9 => absurd (by decide) h9)
            refine lv_iload hx hb d_MD_play_60 (lv_at hl 2 rfl) ?_
            refine lv_bipush (v := 8) hx hb d_MD_play_62 (by decide) ?_
            refine lv_icmp_ge hx hb d_MD_play_64 rfl (fun h9 => absurd h9 (by decide)) (fun _ => ?_)
            refine lv_iconst (v := 2) hx hb d_MD_play_67 (by decide) ?_
            refine lv_goto hx hb d_MD_play_68 rfl ?_
            refine lv_istore hx hb d_MD_play_72 hl (by decide) rfl (fun ls hl => ?_)
            have hl : lv_has ls 11 [(7, .int 2), (4, .int (nI (pp + 1))), (6, .int (u 38 0 ((12 * t) + pp))), (5, .int (nI 5)), (0, .ref (qa_a y 22 0)), (1, .int (nI t)), (2, .int (nI IB)), (3, .int (nI WB))] := hl
            refine lv_aload_n hx hb d_MD_play_74 rfl (lv_at hl 4 rfl) ?_
            refine qa_get (k := 22) (i := 0) (f := 25) (val := .int (u 22 0 25)) E hC Nat.one_pos rfl rfl (by decide) f_MD_129 rfl rfl d_MD_play_75 ?_
            refine lv_iload hx hb d_MD_play_78 (lv_at hl 0 rfl) ?_
            refine lv_icmp_ge hx hb d_MD_play_80 rfl (fun h9 => absurd h9 (by rw [j2]; decide)) (fun _ => ?_)
            refine lv_ldc (v := -1000000001) hx hb hown (hts _ k_MD_132) d_MD_play_83 ?_
            exact qa_mret E hC hr hlocks ⟨by rw [i6s]; exact (qm_ex_r (stk := []) hz eP (show qm_rf (nI 5) 0 0 = -1000000001 from qm_rf_s (by decide)) (by decide)).symm, i4⟩ d_MD_play_85
          · have j2 : u 22 0 25 = nI 1 := i2
            have m1 : u 22 0 25 - 1 = nI 0 := by rw [j2]; exact nI_pred _
            have eb : u 42 0 0 = b := i3.1
            refine lv_iload hx hb d_MD_play_8 (lv_at hl 0 rfl) ?_
            refine lv_aload_n hx hb d_MD_play_10 rfl (lv_at hl 1 rfl) ?_
            refine qa_get (k := 22) (i := 0) (f := 21) (val := .ref (qa_a y 39 0)) E hC Nat.one_pos rfl rfl (by decide) f_MD_58 rfl rfl d_MD_play_11 ?_
            refine lv_iload_n hx hb d_MD_play_14 rfl (lv_at hl 2 rfl) ?_
            refine qa_ild (k := 39) (i := 0) (j := t) E hC Nat.one_pos rfl rfl rfl ht d_MD_play_15 ?_
            refine lv_icmp_ge hx hb d_MD_play_16 rfl (fun h9 => absurd h9 (by rw [hq]; exact nI_ge hz (by omega))) (fun _ => ?_)
            refine lv_aload_n hx hb d_MD_play_19 rfl (lv_at hl 1 rfl) ?_
            refine qa_get (k := 22) (i := 0) (f := 19) (val := .ref (qa_a y 37 0)) E hC Nat.one_pos rfl rfl (by decide) f_MD_52 rfl rfl d_MD_play_20 ?_
            refine lv_bipush (v := 12) hx hb d_MD_play_23 (by decide) ?_
            refine lv_iload_n hx hb d_MD_play_25 rfl (lv_at hl 2 rfl) ?_
            refine lv_imul hx hb d_MD_play_26 ?_
            refine lv_iload hx hb d_MD_play_27 (lv_at hl 0 rfl) ?_
            refine lv_iadd hx hb d_MD_play_29 ?_
            refine qa_ild (k := 37) (i := 0) (j := ((12 * t) + pp)) E hC Nat.one_pos rfl rfl (qn_add (qn_mul rfl rfl) rfl) (show (12 * t) + pp < 48 by omega) d_MD_play_30 ?_
            rw [eo]
            refine lv_istore hx hb d_MD_play_31 hl (by decide) rfl (fun ls hl => ?_)
            have hl : lv_has ls 11 [(5, .int (nI 5)), (4, .int (nI pp)), (0, .ref (qa_a y 22 0)), (1, .int (nI t)), (2, .int (nI IB)), (3, .int (nI WB))] := hl
            refine lv_aload_n hx hb d_MD_play_33 rfl (lv_at hl 2 rfl) ?_
            refine qa_get (k := 22) (i := 0) (f := 20) (val := .ref (qa_a y 38 0)) E hC Nat.one_pos rfl rfl (by decide) f_MD_55 rfl rfl d_MD_play_34 ?_
            refine lv_bipush (v := 12) hx hb d_MD_play_37 (by decide) ?_
            refine lv_iload_n hx hb d_MD_play_39 rfl (lv_at hl 3 rfl) ?_
            refine lv_imul hx hb d_MD_play_40 ?_
            refine lv_iload hx hb d_MD_play_41 (lv_at hl 1 rfl) ?_
            refine lv_iadd hx hb d_MD_play_43 ?_
            refine qa_ild (k := 38) (i := 0) (j := ((12 * t) + pp)) E hC Nat.one_pos rfl rfl (qn_add (qn_mul rfl rfl) rfl) (show (12 * t) + pp < 48 by omega) d_MD_play_44 ?_
            refine lv_istore hx hb d_MD_play_45 hl (by decide) rfl (fun ls hl => ?_)
            have hl : lv_has ls 11 [(6, .int (u 38 0 ((12 * t) + pp))), (5, .int (nI 5)), (4, .int (nI pp)), (0, .ref (qa_a y 22 0)), (1, .int (nI t)), (2, .int (nI IB)), (3, .int (nI WB))] := hl
            refine lv_iinc (v := nI (pp + 1)) hx hb d_MD_play_47 hl (k := 2) rfl (nI_1 pp) (by decide) rfl (fun ls hl => ?_)
            have hl : lv_has ls 11 [(4, .int (nI (pp + 1))), (6, .int (u 38 0 ((12 * t) + pp))), (5, .int (nI 5)), (0, .ref (qa_a y 22 0)), (1, .int (nI t)), (2, .int (nI IB)), (3, .int (nI WB))] := hl
            refine lv_iload hx hb d_MD_play_50 (lv_at hl 2 rfl) ?_
            refine lv_iconst (v := 3) hx hb d_MD_play_52 (by decide) ?_
            refine lv_icmp_ge hx hb d_MD_play_53 rfl (fun _ => ?_) (fun h9 => absurd (by decide) h9)
            refine lv_iload hx hb d_MD_play_60 (lv_at hl 2 rfl) ?_
            refine lv_bipush (v := 8) hx hb d_MD_play_62 (by decide) ?_
            refine lv_icmp_ge hx hb d_MD_play_64 rfl (fun h9 => absurd h9 (by decide)) (fun _ => ?_)
            refine lv_iconst (v := 2) hx hb d_MD_play_67 (by decide) ?_
            refine lv_goto hx hb d_MD_play_68 rfl ?_
            refine lv_istore hx hb d_MD_play_72 hl (by decide) rfl (fun ls hl => ?_)
            have hl : lv_has ls 11 [(7, .int 2), (4, .int (nI (pp + 1))), (6, .int (u 38 0 ((12 * t) + pp))), (5, .int (nI 5)), (0, .ref (qa_a y 22 0)), (1, .int (nI t)), (2, .int (nI IB)), (3, .int (nI WB))] := hl
            refine lv_aload_n hx hb d_MD_play_74 rfl (lv_at hl 4 rfl) ?_
            refine qa_get (k := 22) (i := 0) (f := 25) (val := .int (u 22 0 25)) E hC Nat.one_pos rfl rfl (by decide) f_MD_129 rfl rfl d_MD_play_75 ?_
            refine lv_iload hx hb d_MD_play_78 (lv_at hl 0 rfl) ?_
            refine lv_icmp_ge hx hb d_MD_play_80 rfl (fun h9 => absurd h9 (by rw [j2]; decide)) (fun _ => ?_)
            refine lv_ldc (v := -1000000001) hx hb hown (hts _ k_MD_132) d_MD_play_83 ?_
            exact qa_mret E hC hr hlocks ⟨by rw [i6s]; exact (qm_ex_r (stk := [b]) hz eP (show qm_rf (nI 5) 1 b = -1000000001 from qm_rf_s (by decide)) (by decide)).symm, i4⟩ d_MD_play_85
          · have j2 : u 22 0 25 = nI (r.length + 2) := i2
            have j1 : r.length + 2 ≤ 6 := i1
            have m1 : u 22 0 25 - 1 = nI (r.length + 1) := by rw [j2]; exact nI_pred _
            have eb : u 42 0 (r.length + 1) = b := i3.1
            have m2 : u 22 0 25 - 2 = nI r.length := by rw [j2]; exact pk_sub (a := r.length + 2) (b := 2) (by omega)
            have ea : u 42 0 r.length = a := i3.2.1
            have ns : ¬ nI (r.length + 2) < qm_nee (nI 5) := by rw [show qm_nee (nI 5) = nI 2 from by decide]; exact nI_nlt (by omega) (by omega)
            refine lv_iload hx hb d_MD_play_8 (lv_at hl 0 rfl) ?_
            refine lv_aload_n hx hb d_MD_play_10 rfl (lv_at hl 1 rfl) ?_
            refine qa_get (k := 22) (i := 0) (f := 21) (val := .ref (qa_a y 39 0)) E hC Nat.one_pos rfl rfl (by decide) f_MD_58 rfl rfl d_MD_play_11 ?_
            refine lv_iload_n hx hb d_MD_play_14 rfl (lv_at hl 2 rfl) ?_
            refine qa_ild (k := 39) (i := 0) (j := t) E hC Nat.one_pos rfl rfl rfl ht d_MD_play_15 ?_
            refine lv_icmp_ge hx hb d_MD_play_16 rfl (fun h9 => absurd h9 (by rw [hq]; exact nI_ge hz (by omega))) (fun _ => ?_)
            refine lv_aload_n hx hb d_MD_play_19 rfl (lv_at hl 1 rfl) ?_
            refine qa_get (k := 22) (i := 0) (f := 19) (val := .ref (qa_a y 37 0)) E hC Nat.one_pos rfl rfl (by decide) f_MD_52 rfl rfl d_MD_play_20 ?_
            refine lv_bipush (v := 12) hx hb d_MD_play_23 (by decide) ?_
            refine lv_iload_n hx hb d_MD_play_25 rfl (lv_at hl 2 rfl) ?_
            refine lv_imul hx hb d_MD_play_26 ?_
            refine lv_iload hx hb d_MD_play_27 (lv_at hl 0 rfl) ?_
            refine lv_iadd hx hb d_MD_play_29 ?_
            refine qa_ild (k := 37) (i := 0) (j := ((12 * t) + pp)) E hC Nat.one_pos rfl rfl (qn_add (qn_mul rfl rfl) rfl) (show (12 * t) + pp < 48 by omega) d_MD_play_30 ?_
            rw [eo]
            refine lv_istore hx hb d_MD_play_31 hl (by decide) rfl (fun ls hl => ?_)
            have hl : lv_has ls 11 [(5, .int (nI 5)), (4, .int (nI pp)), (0, .ref (qa_a y 22 0)), (1, .int (nI t)), (2, .int (nI IB)), (3, .int (nI WB))] := hl
            refine lv_aload_n hx hb d_MD_play_33 rfl (lv_at hl 2 rfl) ?_
            refine qa_get (k := 22) (i := 0) (f := 20) (val := .ref (qa_a y 38 0)) E hC Nat.one_pos rfl rfl (by decide) f_MD_55 rfl rfl d_MD_play_34 ?_
            refine lv_bipush (v := 12) hx hb d_MD_play_37 (by decide) ?_
            refine lv_iload_n hx hb d_MD_play_39 rfl (lv_at hl 3 rfl) ?_
            refine lv_imul hx hb d_MD_play_40 ?_
            refine lv_iload hx hb d_MD_play_41 (lv_at hl 1 rfl) ?_
            refine lv_iadd hx hb d_MD_play_43 ?_
            refine qa_ild (k := 38) (i := 0) (j := ((12 * t) + pp)) E hC Nat.one_pos rfl rfl (qn_add (qn_mul rfl rfl) rfl) (show (12 * t) + pp < 48 by omega) d_MD_play_44 ?_
            refine lv_istore hx hb d_MD_play_45 hl (by decide) rfl (fun ls hl => ?_)
            have hl : lv_has ls 11 [(6, .int (u 38 0 ((12 * t) + pp))), (5, .int (nI 5)), (4, .int (nI pp)), (0, .ref (qa_a y 22 0)), (1, .int (nI t)), (2, .int (nI IB)), (3, .int (nI WB))] := hl
            refine lv_iinc (v := nI (pp + 1)) hx hb d_MD_play_47 hl (k := 2) rfl (nI_1 pp) (by decide) rfl (fun ls hl => ?_)
            have hl : lv_has ls 11 [(4, .int (nI (pp + 1))), (6, .int (u 38 0 ((12 * t) + pp))), (5, .int (nI 5)), (0, .ref (qa_a y 22 0)), (1, .int (nI t)), (2, .int (nI IB)), (3, .int (nI WB))] := hl
            refine lv_iload hx hb d_MD_play_50 (lv_at hl 2 rfl) ?_
            refine lv_iconst (v := 3) hx hb d_MD_play_52 (by decide) ?_
            refine lv_icmp_ge hx hb d_MD_play_53 rfl (fun _ => ?_) (fun h9 => absurd (by decide) h9)
            refine lv_iload hx hb d_MD_play_60 (lv_at hl 2 rfl) ?_
            refine lv_bipush (v := 8) hx hb d_MD_play_62 (by decide) ?_
            refine lv_icmp_ge hx hb d_MD_play_64 rfl (fun h9 => absurd h9 (by decide)) (fun _ => ?_)
            refine lv_iconst (v := 2) hx hb d_MD_play_67 (by decide) ?_
            refine lv_goto hx hb d_MD_play_68 rfl ?_
            refine lv_istore hx hb d_MD_play_72 hl (by decide) rfl (fun ls hl => ?_)
            have hl : lv_has ls 11 [(7, .int 2), (4, .int (nI (pp + 1))), (6, .int (u 38 0 ((12 * t) + pp))), (5, .int (nI 5)), (0, .ref (qa_a y 22 0)), (1, .int (nI t)), (2, .int (nI IB)), (3, .int (nI WB))] := hl
            refine lv_aload_n hx hb d_MD_play_74 rfl (lv_at hl 4 rfl) ?_
            refine qa_get (k := 22) (i := 0) (f := 25) (val := .int (u 22 0 25)) E hC Nat.one_pos rfl rfl (by decide) f_MD_129 rfl rfl d_MD_play_75 ?_
            refine lv_iload hx hb d_MD_play_78 (lv_at hl 0 rfl) ?_
            refine lv_icmp_ge hx hb d_MD_play_80 rfl (fun _ => ?_) (fun h9 => absurd (by rw [j2]; exact nI_le (a := 2) (by omega) (by omega)) h9)
            refine lv_aload_n hx hb d_MD_play_86 rfl (lv_at hl 4 rfl) ?_
            refine qa_get (k := 22) (i := 0) (f := 25) (val := .int (u 22 0 25)) E hC Nat.one_pos rfl rfl (by decide) f_MD_129 rfl rfl d_MD_play_87 ?_
            refine lv_if_le hx hb d_MD_play_90 rfl (fun h9 => absurd h9 (by rw [j2]; exact nI_nle (by omega) (by omega))) (fun _ => ?_)
            refine lv_aload_n hx hb d_MD_play_93 rfl (lv_at hl 4 rfl) ?_
            refine qa_get (k := 22) (i := 0) (f := 24) (val := .ref (qa_a y 42 0)) E hC Nat.one_pos rfl rfl (by decide) f_MD_67 rfl rfl d_MD_play_94 ?_
            refine lv_aload_n hx hb d_MD_play_97 rfl (lv_at hl 4 rfl) ?_
            refine qa_get (k := 22) (i := 0) (f := 25) (val := .int (u 22 0 25)) E hC Nat.one_pos rfl rfl (by decide) f_MD_129 rfl rfl d_MD_play_98 ?_
            refine lv_iconst (v := 1) hx hb d_MD_play_101 (by decide) ?_
            refine lv_isub hx hb d_MD_play_102 ?_
            refine qa_ild (k := 42) (i := 0) (j := (r.length + 1)) E hC Nat.one_pos rfl rfl m1 (show r.length + 1 < 6 by omega) d_MD_play_103 ?_
            rw [eb]
            refine lv_goto hx hb d_MD_play_104 rfl ?_
            refine lv_istore hx hb d_MD_play_108 hl (by decide) rfl (fun ls hl => ?_)
            have hl : lv_has ls 11 [(8, .int b), (7, .int 2), (4, .int (nI (pp + 1))), (6, .int (u 38 0 ((12 * t) + pp))), (5, .int (nI 5)), (0, .ref (qa_a y 22 0)), (1, .int (nI t)), (2, .int (nI IB)), (3, .int (nI WB))] := hl
            refine lv_aload_n hx hb d_MD_play_110 rfl (lv_at hl 5 rfl) ?_
            refine qa_get (k := 22) (i := 0) (f := 25) (val := .int (u 22 0 25)) E hC Nat.one_pos rfl rfl (by decide) f_MD_129 rfl rfl d_MD_play_111 ?_
            refine lv_iconst (v := 1) hx hb d_MD_play_114 (by decide) ?_
            refine lv_icmp_le hx hb d_MD_play_115 rfl (fun h9 => absurd h9 (by rw [j2]; exact nI_ge (b := (r.length + 2)) (a := 1) (by omega) (by omega))) (fun _ => ?_)
            refine lv_aload_n hx hb d_MD_play_118 rfl (lv_at hl 5 rfl) ?_
            refine qa_get (k := 22) (i := 0) (f := 24) (val := .ref (qa_a y 42 0)) E hC Nat.one_pos rfl rfl (by decide) f_MD_67 rfl rfl d_MD_play_119 ?_
            refine lv_aload_n hx hb d_MD_play_122 rfl (lv_at hl 5 rfl) ?_
            refine qa_get (k := 22) (i := 0) (f := 25) (val := .int (u 22 0 25)) E hC Nat.one_pos rfl rfl (by decide) f_MD_129 rfl rfl d_MD_play_123 ?_
            refine lv_iconst (v := 2) hx hb d_MD_play_126 (by decide) ?_
            refine lv_isub hx hb d_MD_play_127 ?_
            refine qa_ild (k := 42) (i := 0) (j := r.length) E hC Nat.one_pos rfl rfl m2 (show r.length < 6 by omega) d_MD_play_128 ?_
            rw [ea]
            refine lv_goto hx hb d_MD_play_129 rfl ?_
            refine lv_istore hx hb d_MD_play_133 hl (by decide) rfl (fun ls hl => ?_)
            have hl : lv_has ls 11 [(9, .int a), (8, .int b), (7, .int 2), (4, .int (nI (pp + 1))), (6, .int (u 38 0 ((12 * t) + pp))), (5, .int (nI 5)), (0, .ref (qa_a y 22 0)), (1, .int (nI t)), (2, .int (nI IB)), (3, .int (nI WB))] := hl
            refine lv_iload hx hb d_MD_play_135 (lv_at hl 5 rfl) ?_
            refine lv_bipush (v := 6) hx hb d_MD_play_137 (by decide) ?_
            refine lv_icmp_ne hx hb d_MD_play_139 rfl (fun _ => ?_) (fun h9 => absurd h9 (by decide))
            refine lv_iload hx hb d_MD_play_150 (lv_at hl 5 rfl) ?_
            refine lv_iconst (v := 3) hx hb d_MD_play_152 (by decide) ?_
            refine lv_icmp_lt hx hb d_MD_play_153 rfl (fun h9 => absurd h9 (by decide)) (fun _ => ?_)
            refine lv_iload hx hb d_MD_play_156 (lv_at hl 5 rfl) ?_
            refine lv_bipush (v := 9) hx hb d_MD_play_158 (by decide) ?_
            refine lv_icmp_ne hx hb d_MD_play_160 rfl (fun _ => ?_) (fun h9 => absurd h9 (by decide))
            refine lv_iload hx hb d_MD_play_175 (lv_at hl 5 rfl) ?_
            refine lv_bipush (v := 8) hx hb d_MD_play_177 (by decide) ?_
            refine lv_icmp_ne hx hb d_MD_play_179 rfl (fun _ => ?_) (fun h9 => absurd h9 (by decide))
            refine lv_iload hx hb d_MD_play_212 (lv_at hl 2 rfl) ?_
            refine lv_iconst (v := 2) hx hb d_MD_play_214 (by decide) ?_
            refine lv_icmp_ne hx hb d_MD_play_215 rfl (fun h9 => absurd rfl h9) (fun _ => ?_)
            refine lv_iload hx hb d_MD_play_218 (lv_at hl 5 rfl) ?_
            refine lv_iload hx hb d_MD_play_220 (lv_at hl 0 rfl) ?_
            refine lv_iload hx hb d_MD_play_222 (lv_at hl 1 rfl) ?_
            refine qa_pT (As := [.int (nI 5), .int a, .int b]) F (c_MD_two l (nI 5) a b (fun q9 => absurd q9 (by decide))) k_MD_135 (qa_fitR (by decide) (by decide)) rfl hl.1 rfl (Nat.le_of_ble_eq_true rfl) d_MD_play_224 ?_
            refine lv_istore hx hb d_MD_play_227 hl (by decide) rfl (fun ls hl => ?_)
            have hl : lv_has ls 11 [(10, .int (qm_two (nI 5) a b)), (9, .int a), (8, .int b), (7, .int 2), (4, .int (nI (pp + 1))), (6, .int (u 38 0 ((12 * t) + pp))), (5, .int (nI 5)), (0, .ref (qa_a y 22 0)), (1, .int (nI t)), (2, .int (nI IB)), (3, .int (nI WB))] := hl
            refine lv_aload_n hx hb d_MD_play_229 rfl (lv_at hl 7 rfl) ?_
            refine lv_dup hx hb d_MD_play_230 rfl ?_
            refine qa_get (k := 22) (i := 0) (f := 25) (val := .int (u 22 0 25)) E hC Nat.one_pos rfl rfl (by decide) f_MD_129 rfl rfl d_MD_play_231 ?_
            refine lv_iconst (v := 2) hx hb d_MD_play_234 (by decide) ?_
            refine lv_isub hx hb d_MD_play_235 ?_
            rw [m2]
            refine qa_put (k := 22) (i := 0) (f := 25) E hC Nat.one_pos rfl rfl (by decide) f_MD_129 rfl rfl rfl rfl d_MD_play_236 (fun H locs hC => ?_)
            refine lv_aload_n hx hb d_MD_play_239 rfl (lv_at hl 7 rfl) ?_
            refine lv_iload hx hb d_MD_play_240 (lv_at hl 0 rfl) ?_
            have d2 : (qa_up u 22 0 25 (nI r.length)) 22 0 25 = nI r.length := qa_up_s
            refine qa_mVv (k := 22) (i := 0) (As := [.int (qm_two (nI 5) a b)]) E hC (c_MD_push l y (qa_up u 22 0 25 (nI r.length)) r.length (qm_two (nI 5) a b) d2 (by omega)) Nat.one_pos rfl rfl k_MD_138 (qa_fitR (by decide) (by decide)) rfl hl.1 rfl (Nat.le_of_ble_eq_true rfl) d_MD_play_242 (fun u12 H locs hp12 hC => ?_)
            refine lv_goto hx hb d_MD_play_245 rfl ?_
            refine lv_goto hx hb d_MD_play_304 rfl ?_
            refine ih (pp + 1) u12 H locs ((qm_two (nI 5) a b) :: r) ls (by omega) (by omega) hC ⟨?_, ?_, ⟨?_, ?_⟩, ?_, ?_⟩ (lv_sub hl [4, 7, 8, 9, 10] rfl)
            · show r.length + 1 ≤ 6; omega
            · rw [hp12]; exact qa_up_s
            · rw [hp12, qa_up_kk (by decide)]; exact qa_up_s
            · refine qm_st_n i3.2.2 (fun q hq => ?_)
              have hq : q < r.length := hq
              rw [hp12, qa_up_kk (by decide), qa_up_f (by omega), qa_up_kk (by decide)]
            · intro c b8 f h1 h2; rw [hp12, qa_up_x (fun q9 => h1 ⟨q9.1, q9.2.2⟩), qa_up_k h2, qa_up_x (fun q9 => h1 ⟨q9.1, q9.2.2⟩)]; exact i4 c b8 f h1 h2
            · rw [i6s]; exact (qm_ex_2 hz eP (show qm_rf (nI 5) (r.length + 2) b = 0 from qm_rf_ok ns (fun q9 => absurd q9 (by decide)) (fun q9 => absurd q9 (by decide))) (by decide) (by decide)).symm
        · have eo : u 37 0 (12 * t + pp) = nI 6 := q37.trans eP
          rw [eP] at hok
          rcases stk with _ | ⟨b, _ | ⟨a, r⟩⟩
          · have j2 : u 22 0 25 = nI 0 := i2
            refine lv_iload hx hb d_MD_play_8 (lv_at hl 0 rfl) ?_
            refine lv_aload_n hx hb d_MD_play_10 rfl (lv_at hl 1 rfl) ?_
            refine qa_get (k := 22) (i := 0) (f := 21) (val := .ref (qa_a y 39 0)) E hC Nat.one_pos rfl rfl (by decide) f_MD_58 rfl rfl d_MD_play_11 ?_
            refine lv_iload_n hx hb d_MD_play_14 rfl (lv_at hl 2 rfl) ?_
            refine qa_ild (k := 39) (i := 0) (j := t) E hC Nat.one_pos rfl rfl rfl ht d_MD_play_15 ?_
            refine lv_icmp_ge hx hb d_MD_play_16 rfl (fun h9 => absurd h9 (by rw [hq]; exact nI_ge hz (by omega))) (fun _ => ?_)
            refine lv_aload_n hx hb d_MD_play_19 rfl (lv_at hl 1 rfl) ?_
            refine qa_get (k := 22) (i := 0) (f := 19) (val := .ref (qa_a y 37 0)) E hC Nat.one_pos rfl rfl (by decide) f_MD_52 rfl rfl d_MD_play_20 ?_
            refine lv_bipush (v := 12) hx hb d_MD_play_23 (by decide) ?_
            refine lv_iload_n hx hb d_MD_play_25 rfl (lv_at hl 2 rfl) ?_
            refine lv_imul hx hb d_MD_play_26 ?_
            refine lv_iload hx hb d_MD_play_27 (lv_at hl 0 rfl) ?_
            refine lv_iadd hx hb d_MD_play_29 ?_
            refine qa_ild (k := 37) (i := 0) (j := ((12 * t) + pp)) E hC Nat.one_pos rfl rfl (qn_add (qn_mul rfl rfl) rfl) (show (12 * t) + pp < 48 by omega) d_MD_play_30 ?_
            rw [eo]
            refine lv_istore hx hb d_MD_play_31 hl (by decide) rfl (fun ls hl => ?_)
            have hl : lv_has ls 11 [(5, .int (nI 6)), (4, .int (nI pp)), (0, .ref (qa_a y 22 0)), (1, .int (nI t)), (2, .int (nI IB)), (3, .int (nI WB))] := hl
            refine lv_aload_n hx hb d_MD_play_33 rfl (lv_at hl 2 rfl) ?_
            refine qa_get (k := 22) (i := 0) (f := 20) (val := .ref (qa_a y 38 0)) E hC Nat.one_pos rfl rfl (by decide) f_MD_55 rfl rfl d_MD_play_34 ?_
            refine lv_bipush (v := 12) hx hb d_MD_play_37 (by decide) ?_
            refine lv_iload_n hx hb d_MD_play_39 rfl (lv_at hl 3 rfl) ?_
            refine lv_imul hx hb d_MD_play_40 ?_
            refine lv_iload hx hb d_MD_play_41 (lv_at hl 1 rfl) ?_
            refine lv_iadd hx hb d_MD_play_43 ?_
            refine qa_ild (k := 38) (i := 0) (j := ((12 * t) + pp)) E hC Nat.one_pos rfl rfl (qn_add (qn_mul rfl rfl) rfl) (show (12 * t) + pp < 48 by omega) d_MD_play_44 ?_
            refine lv_istore hx hb d_MD_play_45 hl (by decide) rfl (fun ls hl => ?_)
            have hl : lv_has ls 11 [(6, .int (u 38 0 ((12 * t) + pp))), (5, .int (nI 6)), (4, .int (nI pp)), (0, .ref (qa_a y 22 0)), (1, .int (nI t)), (2, .int (nI IB)), (3, .int (nI WB))] := hl
            refine lv_iinc (v := nI (pp + 1)) hx hb d_MD_play_47 hl (k := 2) rfl (nI_1 pp) (by decide) rfl (fun ls hl => ?_)
            have hl : lv_has ls 11 [(4, .int (nI (pp + 1))), (6, .int (u 38 0 ((12 * t) + pp))), (5, .int (nI 6)), (0, .ref (qa_a y 22 0)), (1, .int (nI t)), (2, .int (nI IB)), (3, .int (nI WB))] := hl
            refine lv_iload hx hb d_MD_play_50 (lv_at hl 2 rfl) ?_
            refine lv_iconst (v := 3) hx hb d_MD_play_52 (by decide) ?_
            refine lv_icmp_ge hx hb d_MD_play_53 rfl (fun _ => ?_) (fun h9 => absurd (by decide) h9)
            refine lv_iload hx hb d_MD_play_60 (lv_at hl 2 rfl) ?_
            refine lv_bipush (v := 8) hx hb d_MD_play_62 (by decide) ?_
            refine lv_icmp_ge hx hb d_MD_play_64 rfl (fun h9 => absurd h9 (by decide)) (fun _ => ?_)
            refine lv_iconst (v := 2) hx hb d_MD_play_67 (by decide) ?_
            refine lv_goto hx hb d_MD_play_68 rfl ?_
            refine lv_istore hx hb d_MD_play_72 hl (by decide) rfl (fun ls hl => ?_)
            have hl : lv_has ls 11 [(7, .int 2), (4, .int (nI (pp + 1))), (6, .int (u 38 0 ((12 * t) + pp))), (5, .int (nI 6)), (0, .ref (qa_a y 22 0)), (1, .int (nI t)), (2, .int (nI IB)), (3, .int (nI WB))] := hl
            refine lv_aload_n hx hb d_MD_play_74 rfl (lv_at hl 4 rfl) ?_
            refine qa_get (k := 22) (i := 0) (f := 25) (val := .int (u 22 0 25)) E hC Nat.one_pos rfl rfl (by decide) f_MD_129 rfl rfl d_MD_play_75 ?_
            refine lv_iload hx hb d_MD_play_78 (lv_at hl 0 rfl) ?_
            refine lv_icmp_ge hx hb d_MD_play_80 rfl (fun h9 => absurd h9 (by rw [j2]; decide)) (fun _ => ?_)
            refine lv_ldc (v := -1000000001) hx hb hown (hts _ k_MD_132) d_MD_play_83 ?_
            exact qa_mret E hC hr hlocks ⟨by rw [i6s]; exact (qm_ex_r (stk := []) hz eP (show qm_rf (nI 6) 0 0 = -1000000001 from qm_rf_s (by decide)) (by decide)).symm, i4⟩ d_MD_play_85
          · have j2 : u 22 0 25 = nI 1 := i2
            have m1 : u 22 0 25 - 1 = nI 0 := by rw [j2]; exact nI_pred _
            have eb : u 42 0 0 = b := i3.1
            refine lv_iload hx hb d_MD_play_8 (lv_at hl 0 rfl) ?_
            refine lv_aload_n hx hb d_MD_play_10 rfl (lv_at hl 1 rfl) ?_
            refine qa_get (k := 22) (i := 0) (f := 21) (val := .ref (qa_a y 39 0)) E hC Nat.one_pos rfl rfl (by decide) f_MD_58 rfl rfl d_MD_play_11 ?_
            refine lv_iload_n hx hb d_MD_play_14 rfl (lv_at hl 2 rfl) ?_
            refine qa_ild (k := 39) (i := 0) (j := t) E hC Nat.one_pos rfl rfl rfl ht d_MD_play_15 ?_
            refine lv_icmp_ge hx hb d_MD_play_16 rfl (fun h9 => absurd h9 (by rw [hq]; exact nI_ge hz (by omega))) (fun _ => ?_)
            refine lv_aload_n hx hb d_MD_play_19 rfl (lv_at hl 1 rfl) ?_
            refine qa_get (k := 22) (i := 0) (f := 19) (val := .ref (qa_a y 37 0)) E hC Nat.one_pos rfl rfl (by decide) f_MD_52 rfl rfl d_MD_play_20 ?_
            refine lv_bipush (v := 12) hx hb d_MD_play_23 (by decide) ?_
            refine lv_iload_n hx hb d_MD_play_25 rfl (lv_at hl 2 rfl) ?_
            refine lv_imul hx hb d_MD_play_26 ?_
            refine lv_iload hx hb d_MD_play_27 (lv_at hl 0 rfl) ?_
            refine lv_iadd hx hb d_MD_play_29 ?_
            refine qa_ild (k := 37) (i := 0) (j := ((12 * t) + pp)) E hC Nat.one_pos rfl rfl (qn_add (qn_mul rfl rfl) rfl) (show (12 * t) + pp < 48 by omega) d_MD_play_30 ?_
            rw [eo]
            refine lv_istore hx hb d_MD_play_31 hl (by decide) rfl (fun ls hl => ?_)
            have hl : lv_has ls 11 [(5, .int (nI 6)), (4, .int (nI pp)), (0, .ref (qa_a y 22 0)), (1, .int (nI t)), (2, .int (nI IB)), (3, .int (nI WB))] := hl
            refine lv_aload_n hx hb d_MD_play_33 rfl (lv_at hl 2 rfl) ?_
            refine qa_get (k := 22) (i := 0) (f := 20) (val := .ref (qa_a y 38 0)) E hC Nat.one_pos rfl rfl (by decide) f_MD_55 rfl rfl d_MD_play_34 ?_
            refine lv_bipush (v := 12) hx hb d_MD_play_37 (by decide) ?_
            refine lv_iload_n hx hb d_MD_play_39 rfl (lv_at hl 3 rfl) ?_
            refine lv_imul hx hb d_MD_play_40 ?_
            refine lv_iload hx hb d_MD_play_41 (lv_at hl 1 rfl) ?_
            refine lv_iadd hx hb d_MD_play_43 ?_
            refine qa_ild (k := 38) (i := 0) (j := ((12 * t) + pp)) E hC Nat.one_pos rfl rfl (qn_add (qn_mul rfl rfl) rfl) (show (12 * t) + pp < 48 by omega) d_MD_play_44 ?_
            refine lv_istore hx hb d_MD_play_45 hl (by decide) rfl (fun ls hl => ?_)
            have hl : lv_has ls 11 [(6, .int (u 38 0 ((12 * t) + pp))), (5, .int (nI 6)), (4, .int (nI pp)), (0, .ref (qa_a y 22 0)), (1, .int (nI t)), (2, .int (nI IB)), (3, .int (nI WB))] := hl
            refine lv_iinc (v := nI (pp + 1)) hx hb d_MD_play_47 hl (k := 2) rfl (nI_1 pp) (by decide) rfl (fun ls hl => ?_)
            have hl : lv_has ls 11 [(4, .int (nI (pp + 1))), (6, .int (u 38 0 ((12 * t) + pp))), (5, .int (nI 6)), (0, .ref (qa_a y 22 0)), (1, .int (nI t)), (2, .int (nI IB)), (3, .int (nI WB))] := hl
            refine lv_iload hx hb d_MD_play_50 (lv_at hl 2 rfl) ?_
            refine lv_iconst (v := 3) hx hb d_MD_play_52 (by decide) ?_
            refine lv_icmp_ge hx hb d_MD_play_53 rfl (fun _ => ?_) (fun h9 => absurd (by decide) h9)
            refine lv_iload hx hb d_MD_play_60 (lv_at hl 2 rfl) ?_
            refine lv_bipush (v := 8) hx hb d_MD_play_62 (by decide) ?_
            refine lv_icmp_ge hx hb d_MD_play_64 rfl (fun h9 => absurd h9 (by decide)) (fun _ => ?_)
            refine lv_iconst (v := 2) hx hb d_MD_play_67 (by decide) ?_
            refine lv_goto hx hb d_MD_play_68 rfl ?_
            refine lv_istore hx hb d_MD_play_72 hl (by decide) rfl (fun ls hl => ?_)
            have hl : lv_has ls 11 [(7, .int 2), (4, .int (nI (pp + 1))), (6, .int (u 38 0 ((12 * t) + pp))), (5, .int (nI 6)), (0, .ref (qa_a y 22 0)), (1, .int (nI t)), (2, .int (nI IB)), (3, .int (nI WB))] := hl
            refine lv_aload_n hx hb d_MD_play_74 rfl (lv_at hl 4 rfl) ?_
            refine qa_get (k := 22) (i := 0) (f := 25) (val := .int (u 22 0 25)) E hC Nat.one_pos rfl rfl (by decide) f_MD_129 rfl rfl d_MD_play_75 ?_
            refine lv_iload hx hb d_MD_play_78 (lv_at hl 0 rfl) ?_
            refine lv_icmp_ge hx hb d_MD_play_80 rfl (fun h9 => absurd h9 (by rw [j2]; decide)) (fun _ => ?_)
            refine lv_ldc (v := -1000000001) hx hb hown (hts _ k_MD_132) d_MD_play_83 ?_
            exact qa_mret E hC hr hlocks ⟨by rw [i6s]; exact (qm_ex_r (stk := [b]) hz eP (show qm_rf (nI 6) 1 b = -1000000001 from qm_rf_s (by decide)) (by decide)).symm, i4⟩ d_MD_play_85
          · have j2 : u 22 0 25 = nI (r.length + 2) := i2
            have j1 : r.length + 2 ≤ 6 := i1
            have m1 : u 22 0 25 - 1 = nI (r.length + 1) := by rw [j2]; exact nI_pred _
            have eb : u 42 0 (r.length + 1) = b := i3.1
            have m2 : u 22 0 25 - 2 = nI r.length := by rw [j2]; exact pk_sub (a := r.length + 2) (b := 2) (by omega)
            have ea : u 42 0 r.length = a := i3.2.1
            have ns : ¬ nI (r.length + 2) < qm_nee (nI 6) := by rw [show qm_nee (nI 6) = nI 2 from by decide]; exact nI_nlt (by omega) (by omega)
            refine lv_iload hx hb d_MD_play_8 (lv_at hl 0 rfl) ?_
            refine lv_aload_n hx hb d_MD_play_10 rfl (lv_at hl 1 rfl) ?_
            refine qa_get (k := 22) (i := 0) (f := 21) (val := .ref (qa_a y 39 0)) E hC Nat.one_pos rfl rfl (by decide) f_MD_58 rfl rfl d_MD_play_11 ?_
            refine lv_iload_n hx hb d_MD_play_14 rfl (lv_at hl 2 rfl) ?_
            refine qa_ild (k := 39) (i := 0) (j := t) E hC Nat.one_pos rfl rfl rfl ht d_MD_play_15 ?_
            refine lv_icmp_ge hx hb d_MD_play_16 rfl (fun h9 => absurd h9 (by rw [hq]; exact nI_ge hz (by omega))) (fun _ => ?_)
            refine lv_aload_n hx hb d_MD_play_19 rfl (lv_at hl 1 rfl) ?_
            refine qa_get (k := 22) (i := 0) (f := 19) (val := .ref (qa_a y 37 0)) E hC Nat.one_pos rfl rfl (by decide) f_MD_52 rfl rfl d_MD_play_20 ?_
            refine lv_bipush (v := 12) hx hb d_MD_play_23 (by decide) ?_
            refine lv_iload_n hx hb d_MD_play_25 rfl (lv_at hl 2 rfl) ?_
            refine lv_imul hx hb d_MD_play_26 ?_
            refine lv_iload hx hb d_MD_play_27 (lv_at hl 0 rfl) ?_
            refine lv_iadd hx hb d_MD_play_29 ?_
            refine qa_ild (k := 37) (i := 0) (j := ((12 * t) + pp)) E hC Nat.one_pos rfl rfl (qn_add (qn_mul rfl rfl) rfl) (show (12 * t) + pp < 48 by omega) d_MD_play_30 ?_
            rw [eo]
            refine lv_istore hx hb d_MD_play_31 hl (by decide) rfl (fun ls hl => ?_)
            have hl : lv_has ls 11 [(5, .int (nI 6)), (4, .int (nI pp)), (0, .ref (qa_a y 22 0)), (1, .int (nI t)), (2, .int (nI IB)), (3, .int (nI WB))] := hl
            refine lv_aload_n hx hb d_MD_play_33 rfl (lv_at hl 2 rfl) ?_
            refine qa_get (k := 22) (i := 0) (f := 20) (val := .ref (qa_a y 38 0)) E hC Nat.one_pos rfl rfl (by decide) f_MD_55 rfl rfl d_MD_play_34 ?_
            refine lv_bipush (v := 12) hx hb d_MD_play_37 (by decide) ?_
            refine lv_iload_n hx hb d_MD_play_39 rfl (lv_at hl 3 rfl) ?_
            refine lv_imul hx hb d_MD_play_40 ?_
            refine lv_iload hx hb d_MD_play_41 (lv_at hl 1 rfl) ?_
            refine lv_iadd hx hb d_MD_play_43 ?_
            refine qa_ild (k := 38) (i := 0) (j := ((12 * t) + pp)) E hC Nat.one_pos rfl rfl (qn_add (qn_mul rfl rfl) rfl) (show (12 * t) + pp < 48 by omega) d_MD_play_44 ?_
            refine lv_istore hx hb d_MD_play_45 hl (by decide) rfl (fun ls hl => ?_)
            have hl : lv_has ls 11 [(6, .int (u 38 0 ((12 * t) + pp))), (5, .int (nI 6)), (4, .int (nI pp)), (0, .ref (qa_a y 22 0)), (1, .int (nI t)), (2, .int (nI IB)), (3, .int (nI WB))] := hl
            refine lv_iinc (v := nI (pp + 1)) hx hb d_MD_play_47 hl (k := 2) rfl (nI_1 pp) (by decide) rfl (fun ls hl => ?_)
            have hl : lv_has ls 11 [(4, .int (nI (pp + 1))), (6, .int (u 38 0 ((12 * t) + pp))), (5, .int (nI 6)), (0, .ref (qa_a y 22 0)), (1, .int (nI t)), (2, .int (nI IB)), (3, .int (nI WB))] := hl
            refine lv_iload hx hb d_MD_play_50 (lv_at hl 2 rfl) ?_
            refine lv_iconst (v := 3) hx hb d_MD_play_52 (by decide) ?_
            refine lv_icmp_ge hx hb d_MD_play_53 rfl (fun _ => ?_) (fun h9 => absurd (by decide) h9)
            refine lv_iload hx hb d_MD_play_60 (lv_at hl 2 rfl) ?_
            refine lv_bipush (v := 8) hx hb d_MD_play_62 (by decide) ?_
            refine lv_icmp_ge hx hb d_MD_play_64 rfl (fun h9 => absurd h9 (by decide)) (fun _ => ?_)
            refine lv_iconst (v := 2) hx hb d_MD_play_67 (by decide) ?_
            refine lv_goto hx hb d_MD_play_68 rfl ?_
            refine lv_istore hx hb d_MD_play_72 hl (by decide) rfl (fun ls hl => ?_)
            have hl : lv_has ls 11 [(7, .int 2), (4, .int (nI (pp + 1))), (6, .int (u 38 0 ((12 * t) + pp))), (5, .int (nI 6)), (0, .ref (qa_a y 22 0)), (1, .int (nI t)), (2, .int (nI IB)), (3, .int (nI WB))] := hl
            refine lv_aload_n hx hb d_MD_play_74 rfl (lv_at hl 4 rfl) ?_
            refine qa_get (k := 22) (i := 0) (f := 25) (val := .int (u 22 0 25)) E hC Nat.one_pos rfl rfl (by decide) f_MD_129 rfl rfl d_MD_play_75 ?_
            refine lv_iload hx hb d_MD_play_78 (lv_at hl 0 rfl) ?_
            refine lv_icmp_ge hx hb d_MD_play_80 rfl (fun _ => ?_) (fun h9 => absurd (by rw [j2]; exact nI_le (a := 2) (by omega) (by omega)) h9)
            refine lv_aload_n hx hb d_MD_play_86 rfl (lv_at hl 4 rfl) ?_
            refine qa_get (k := 22) (i := 0) (f := 25) (val := .int (u 22 0 25)) E hC Nat.one_pos rfl rfl (by decide) f_MD_129 rfl rfl d_MD_play_87 ?_
            refine lv_if_le hx hb d_MD_play_90 rfl (fun h9 => absurd h9 (by rw [j2]; exact nI_nle (by omega) (by omega))) (fun _ => ?_)
            refine lv_aload_n hx hb d_MD_play_93 rfl (lv_at hl 4 rfl) ?_
            refine qa_get (k := 22) (i := 0) (f := 24) (val := .ref (qa_a y 42 0)) E hC Nat.one_pos rfl rfl (by decide) f_MD_67 rfl rfl d_MD_play_94 ?_
            refine lv_aload_n hx hb d_MD_play_97 rfl (lv_at hl 4 rfl) ?_
            refine qa_get (k := 22) (i := 0) (f := 25) (val := .int (u 22 0 25)) E hC Nat.one_pos rfl rfl (by decide) f_MD_129 rfl rfl d_MD_play_98 ?_
            refine lv_iconst (v := 1) hx hb d_MD_play_101 (by decide) ?_
            refine lv_isub hx hb d_MD_play_102 ?_
            refine qa_ild (k := 42) (i := 0) (j := (r.length + 1)) E hC Nat.one_pos rfl rfl m1 (show r.length + 1 < 6 by omega) d_MD_play_103 ?_
            rw [eb]
            refine lv_goto hx hb d_MD_play_104 rfl ?_
            refine lv_istore hx hb d_MD_play_108 hl (by decide) rfl (fun ls hl => ?_)
            have hl : lv_has ls 11 [(8, .int b), (7, .int 2), (4, .int (nI (pp + 1))), (6, .int (u 38 0 ((12 * t) + pp))), (5, .int (nI 6)), (0, .ref (qa_a y 22 0)), (1, .int (nI t)), (2, .int (nI IB)), (3, .int (nI WB))] := hl
            refine lv_aload_n hx hb d_MD_play_110 rfl (lv_at hl 5 rfl) ?_
            refine qa_get (k := 22) (i := 0) (f := 25) (val := .int (u 22 0 25)) E hC Nat.one_pos rfl rfl (by decide) f_MD_129 rfl rfl d_MD_play_111 ?_
            refine lv_iconst (v := 1) hx hb d_MD_play_114 (by decide) ?_
            refine lv_icmp_le hx hb d_MD_play_115 rfl (fun h9 => absurd h9 (by rw [j2]; exact nI_ge (b := (r.length + 2)) (a := 1) (by omega) (by omega))) (fun _ => ?_)
            refine lv_aload_n hx hb d_MD_play_118 rfl (lv_at hl 5 rfl) ?_
            refine qa_get (k := 22) (i := 0) (f := 24) (val := .ref (qa_a y 42 0)) E hC Nat.one_pos rfl rfl (by decide) f_MD_67 rfl rfl d_MD_play_119 ?_
            refine lv_aload_n hx hb d_MD_play_122 rfl (lv_at hl 5 rfl) ?_
            refine qa_get (k := 22) (i := 0) (f := 25) (val := .int (u 22 0 25)) E hC Nat.one_pos rfl rfl (by decide) f_MD_129 rfl rfl d_MD_play_123 ?_
            refine lv_iconst (v := 2) hx hb d_MD_play_126 (by decide) ?_
            refine lv_isub hx hb d_MD_play_127 ?_
            refine qa_ild (k := 42) (i := 0) (j := r.length) E hC Nat.one_pos rfl rfl m2 (show r.length < 6 by omega) d_MD_play_128 ?_
            rw [ea]
            refine lv_goto hx hb d_MD_play_129 rfl ?_
            refine lv_istore hx hb d_MD_play_133 hl (by decide) rfl (fun ls hl => ?_)
            have hl : lv_has ls 11 [(9, .int a), (8, .int b), (7, .int 2), (4, .int (nI (pp + 1))), (6, .int (u 38 0 ((12 * t) + pp))), (5, .int (nI 6)), (0, .ref (qa_a y 22 0)), (1, .int (nI t)), (2, .int (nI IB)), (3, .int (nI WB))] := hl
            refine lv_iload hx hb d_MD_play_135 (lv_at hl 5 rfl) ?_
            refine lv_bipush (v := 6) hx hb d_MD_play_137 (by decide) ?_
            refine lv_icmp_ne hx hb d_MD_play_139 rfl (fun h9 => absurd (by decide) h9) (fun _ => ?_)
            refine lv_iload hx hb d_MD_play_142 (lv_at hl 1 rfl) ?_
            refine lv_if_ne hx hb d_MD_play_144 rfl (fun h144 => ?_) (fun h144 => ?_)
            · refine lv_iload hx hb d_MD_play_150 (lv_at hl 5 rfl) ?_
              refine lv_iconst (v := 3) hx hb d_MD_play_152 (by decide) ?_
              refine lv_icmp_lt hx hb d_MD_play_153 rfl (fun h9 => absurd h9 (by decide)) (fun _ => ?_)
              refine lv_iload hx hb d_MD_play_156 (lv_at hl 5 rfl) ?_
              refine lv_bipush (v := 9) hx hb d_MD_play_158 (by decide) ?_
              refine lv_icmp_ne hx hb d_MD_play_160 rfl (fun _ => ?_) (fun h9 => absurd h9 (by decide))
              refine lv_iload hx hb d_MD_play_175 (lv_at hl 5 rfl) ?_
              refine lv_bipush (v := 8) hx hb d_MD_play_177 (by decide) ?_
              refine lv_icmp_ne hx hb d_MD_play_179 rfl (fun _ => ?_) (fun h9 => absurd h9 (by decide))
              refine lv_iload hx hb d_MD_play_212 (lv_at hl 2 rfl) ?_
              refine lv_iconst (v := 2) hx hb d_MD_play_214 (by decide) ?_
              refine lv_icmp_ne hx hb d_MD_play_215 rfl (fun h9 => absurd rfl h9) (fun _ => ?_)
              refine lv_iload hx hb d_MD_play_218 (lv_at hl 5 rfl) ?_
              refine lv_iload hx hb d_MD_play_220 (lv_at hl 0 rfl) ?_
              refine lv_iload hx hb d_MD_play_222 (lv_at hl 1 rfl) ?_
              refine qa_pT (As := [.int (nI 6), .int a, .int b]) F (c_MD_two l (nI 6) a b (fun _ => h144)) k_MD_135 (qa_fitR (by decide) (by decide)) rfl hl.1 rfl (Nat.le_of_ble_eq_true rfl) d_MD_play_224 ?_
              refine lv_istore hx hb d_MD_play_227 hl (by decide) rfl (fun ls hl => ?_)
              have hl : lv_has ls 11 [(10, .int (qm_two (nI 6) a b)), (9, .int a), (8, .int b), (7, .int 2), (4, .int (nI (pp + 1))), (6, .int (u 38 0 ((12 * t) + pp))), (5, .int (nI 6)), (0, .ref (qa_a y 22 0)), (1, .int (nI t)), (2, .int (nI IB)), (3, .int (nI WB))] := hl
              refine lv_aload_n hx hb d_MD_play_229 rfl (lv_at hl 7 rfl) ?_
              refine lv_dup hx hb d_MD_play_230 rfl ?_
              refine qa_get (k := 22) (i := 0) (f := 25) (val := .int (u 22 0 25)) E hC Nat.one_pos rfl rfl (by decide) f_MD_129 rfl rfl d_MD_play_231 ?_
              refine lv_iconst (v := 2) hx hb d_MD_play_234 (by decide) ?_
              refine lv_isub hx hb d_MD_play_235 ?_
              rw [m2]
              refine qa_put (k := 22) (i := 0) (f := 25) E hC Nat.one_pos rfl rfl (by decide) f_MD_129 rfl rfl rfl rfl d_MD_play_236 (fun H locs hC => ?_)
              refine lv_aload_n hx hb d_MD_play_239 rfl (lv_at hl 7 rfl) ?_
              refine lv_iload hx hb d_MD_play_240 (lv_at hl 0 rfl) ?_
              have d2 : (qa_up u 22 0 25 (nI r.length)) 22 0 25 = nI r.length := qa_up_s
              refine qa_mVv (k := 22) (i := 0) (As := [.int (qm_two (nI 6) a b)]) E hC (c_MD_push l y (qa_up u 22 0 25 (nI r.length)) r.length (qm_two (nI 6) a b) d2 (by omega)) Nat.one_pos rfl rfl k_MD_138 (qa_fitR (by decide) (by decide)) rfl hl.1 rfl (Nat.le_of_ble_eq_true rfl) d_MD_play_242 (fun u13 H locs hp13 hC => ?_)
              refine lv_goto hx hb d_MD_play_245 rfl ?_
              refine lv_goto hx hb d_MD_play_304 rfl ?_
              refine ih (pp + 1) u13 H locs ((qm_two (nI 6) a b) :: r) ls (by omega) (by omega) hC ⟨?_, ?_, ⟨?_, ?_⟩, ?_, ?_⟩ (lv_sub hl [4, 7, 8, 9, 10] rfl)
              · show r.length + 1 ≤ 6; omega
              · rw [hp13]; exact qa_up_s
              · rw [hp13, qa_up_kk (by decide)]; exact qa_up_s
              · refine qm_st_n i3.2.2 (fun q hq => ?_)
                have hq : q < r.length := hq
                rw [hp13, qa_up_kk (by decide), qa_up_f (by omega), qa_up_kk (by decide)]
              · intro c b8 f h1 h2; rw [hp13, qa_up_x (fun q9 => h1 ⟨q9.1, q9.2.2⟩), qa_up_k h2, qa_up_x (fun q9 => h1 ⟨q9.1, q9.2.2⟩)]; exact i4 c b8 f h1 h2
              · rw [i6s]; exact (qm_ex_2 hz eP (show qm_rf (nI 6) (r.length + 2) b = 0 from qm_rf_ok ns (fun _ => h144) (fun q9 => absurd q9 (by decide))) (by decide) (by decide)).symm
            · refine lv_ldc (v := -1000000003) hx hb hown (hts _ k_MD_133) d_MD_play_147 ?_
              exact qa_mret E hC hr hlocks ⟨by rw [i6s]; exact (qm_ex_r (stk := (b :: a :: r)) hz eP (show qm_rf (nI 6) (r.length + 2) b = -1000000003 from qm_rf_z ns (by decide) h144) (by decide)).symm, i4⟩ d_MD_play_149
        · have eo : u 37 0 (12 * t + pp) = nI 7 := q37.trans eP
          rw [eP] at hok
          rcases stk with _ | ⟨b, _ | ⟨a, r⟩⟩
          · have j2 : u 22 0 25 = nI 0 := i2
            refine lv_iload hx hb d_MD_play_8 (lv_at hl 0 rfl) ?_
            refine lv_aload_n hx hb d_MD_play_10 rfl (lv_at hl 1 rfl) ?_
            refine qa_get (k := 22) (i := 0) (f := 21) (val := .ref (qa_a y 39 0)) E hC Nat.one_pos rfl rfl (by decide) f_MD_58 rfl rfl d_MD_play_11 ?_
            refine lv_iload_n hx hb d_MD_play_14 rfl (lv_at hl 2 rfl) ?_
            refine qa_ild (k := 39) (i := 0) (j := t) E hC Nat.one_pos rfl rfl rfl ht d_MD_play_15 ?_
            refine lv_icmp_ge hx hb d_MD_play_16 rfl (fun h9 => absurd h9 (by rw [hq]; exact nI_ge hz (by omega))) (fun _ => ?_)
            refine lv_aload_n hx hb d_MD_play_19 rfl (lv_at hl 1 rfl) ?_
            refine qa_get (k := 22) (i := 0) (f := 19) (val := .ref (qa_a y 37 0)) E hC Nat.one_pos rfl rfl (by decide) f_MD_52 rfl rfl d_MD_play_20 ?_
            refine lv_bipush (v := 12) hx hb d_MD_play_23 (by decide) ?_
            refine lv_iload_n hx hb d_MD_play_25 rfl (lv_at hl 2 rfl) ?_
            refine lv_imul hx hb d_MD_play_26 ?_
            refine lv_iload hx hb d_MD_play_27 (lv_at hl 0 rfl) ?_
            refine lv_iadd hx hb d_MD_play_29 ?_
            refine qa_ild (k := 37) (i := 0) (j := ((12 * t) + pp)) E hC Nat.one_pos rfl rfl (qn_add (qn_mul rfl rfl) rfl) (show (12 * t) + pp < 48 by omega) d_MD_play_30 ?_
            rw [eo]
            refine lv_istore hx hb d_MD_play_31 hl (by decide) rfl (fun ls hl => ?_)
            have hl : lv_has ls 11 [(5, .int (nI 7)), (4, .int (nI pp)), (0, .ref (qa_a y 22 0)), (1, .int (nI t)), (2, .int (nI IB)), (3, .int (nI WB))] := hl
            refine lv_aload_n hx hb d_MD_play_33 rfl (lv_at hl 2 rfl) ?_
            refine qa_get (k := 22) (i := 0) (f := 20) (val := .ref (qa_a y 38 0)) E hC Nat.one_pos rfl rfl (by decide) f_MD_55 rfl rfl d_MD_play_34 ?_
            refine lv_bipush (v := 12) hx hb d_MD_play_37 (by decide) ?_
            refine lv_iload_n hx hb d_MD_play_39 rfl (lv_at hl 3 rfl) ?_
            refine lv_imul hx hb d_MD_play_40 ?_
            refine lv_iload hx hb d_MD_play_41 (lv_at hl 1 rfl) ?_
            refine lv_iadd hx hb d_MD_play_43 ?_
            refine qa_ild (k := 38) (i := 0) (j := ((12 * t) + pp)) E hC Nat.one_pos rfl rfl (qn_add (qn_mul rfl rfl) rfl) (show (12 * t) + pp < 48 by omega) d_MD_play_44 ?_
            refine lv_istore hx hb d_MD_play_45 hl (by decide) rfl (fun ls hl => ?_)
            have hl : lv_has ls 11 [(6, .int (u 38 0 ((12 * t) + pp))), (5, .int (nI 7)), (4, .int (nI pp)), (0, .ref (qa_a y 22 0)), (1, .int (nI t)), (2, .int (nI IB)), (3, .int (nI WB))] := hl
            refine lv_iinc (v := nI (pp + 1)) hx hb d_MD_play_47 hl (k := 2) rfl (nI_1 pp) (by decide) rfl (fun ls hl => ?_)
            have hl : lv_has ls 11 [(4, .int (nI (pp + 1))), (6, .int (u 38 0 ((12 * t) + pp))), (5, .int (nI 7)), (0, .ref (qa_a y 22 0)), (1, .int (nI t)), (2, .int (nI IB)), (3, .int (nI WB))] := hl
            refine lv_iload hx hb d_MD_play_50 (lv_at hl 2 rfl) ?_
            refine lv_iconst (v := 3) hx hb d_MD_play_52 (by decide) ?_
            refine lv_icmp_ge hx hb d_MD_play_53 rfl (fun _ => ?_) (fun h9 => absurd (by decide) h9)
            refine lv_iload hx hb d_MD_play_60 (lv_at hl 2 rfl) ?_
            refine lv_bipush (v := 8) hx hb d_MD_play_62 (by decide) ?_
            refine lv_icmp_ge hx hb d_MD_play_64 rfl (fun h9 => absurd h9 (by decide)) (fun _ => ?_)
            refine lv_iconst (v := 2) hx hb d_MD_play_67 (by decide) ?_
            refine lv_goto hx hb d_MD_play_68 rfl ?_
            refine lv_istore hx hb d_MD_play_72 hl (by decide) rfl (fun ls hl => ?_)
            have hl : lv_has ls 11 [(7, .int 2), (4, .int (nI (pp + 1))), (6, .int (u 38 0 ((12 * t) + pp))), (5, .int (nI 7)), (0, .ref (qa_a y 22 0)), (1, .int (nI t)), (2, .int (nI IB)), (3, .int (nI WB))] := hl
            refine lv_aload_n hx hb d_MD_play_74 rfl (lv_at hl 4 rfl) ?_
            refine qa_get (k := 22) (i := 0) (f := 25) (val := .int (u 22 0 25)) E hC Nat.one_pos rfl rfl (by decide) f_MD_129 rfl rfl d_MD_play_75 ?_
            refine lv_iload hx hb d_MD_play_78 (lv_at hl 0 rfl) ?_
            refine lv_icmp_ge hx hb d_MD_play_80 rfl (fun h9 => absurd h9 (by rw [j2]; decide)) (fun _ => ?_)
            refine lv_ldc (v := -1000000001) hx hb hown (hts _ k_MD_132) d_MD_play_83 ?_
            exact qa_mret E hC hr hlocks ⟨by rw [i6s]; exact (qm_ex_r (stk := []) hz eP (show qm_rf (nI 7) 0 0 = -1000000001 from qm_rf_s (by decide)) (by decide)).symm, i4⟩ d_MD_play_85
          · have j2 : u 22 0 25 = nI 1 := i2
            have m1 : u 22 0 25 - 1 = nI 0 := by rw [j2]; exact nI_pred _
            have eb : u 42 0 0 = b := i3.1
            refine lv_iload hx hb d_MD_play_8 (lv_at hl 0 rfl) ?_
            refine lv_aload_n hx hb d_MD_play_10 rfl (lv_at hl 1 rfl) ?_
            refine qa_get (k := 22) (i := 0) (f := 21) (val := .ref (qa_a y 39 0)) E hC Nat.one_pos rfl rfl (by decide) f_MD_58 rfl rfl d_MD_play_11 ?_
            refine lv_iload_n hx hb d_MD_play_14 rfl (lv_at hl 2 rfl) ?_
            refine qa_ild (k := 39) (i := 0) (j := t) E hC Nat.one_pos rfl rfl rfl ht d_MD_play_15 ?_
            refine lv_icmp_ge hx hb d_MD_play_16 rfl (fun h9 => absurd h9 (by rw [hq]; exact nI_ge hz (by omega))) (fun _ => ?_)
            refine lv_aload_n hx hb d_MD_play_19 rfl (lv_at hl 1 rfl) ?_
            refine qa_get (k := 22) (i := 0) (f := 19) (val := .ref (qa_a y 37 0)) E hC Nat.one_pos rfl rfl (by decide) f_MD_52 rfl rfl d_MD_play_20 ?_
            refine lv_bipush (v := 12) hx hb d_MD_play_23 (by decide) ?_
            refine lv_iload_n hx hb d_MD_play_25 rfl (lv_at hl 2 rfl) ?_
            refine lv_imul hx hb d_MD_play_26 ?_
            refine lv_iload hx hb d_MD_play_27 (lv_at hl 0 rfl) ?_
            refine lv_iadd hx hb d_MD_play_29 ?_
            refine qa_ild (k := 37) (i := 0) (j := ((12 * t) + pp)) E hC Nat.one_pos rfl rfl (qn_add (qn_mul rfl rfl) rfl) (show (12 * t) + pp < 48 by omega) d_MD_play_30 ?_
            rw [eo]
            refine lv_istore hx hb d_MD_play_31 hl (by decide) rfl (fun ls hl => ?_)
            have hl : lv_has ls 11 [(5, .int (nI 7)), (4, .int (nI pp)), (0, .ref (qa_a y 22 0)), (1, .int (nI t)), (2, .int (nI IB)), (3, .int (nI WB))] := hl
            refine lv_aload_n hx hb d_MD_play_33 rfl (lv_at hl 2 rfl) ?_
            refine qa_get (k := 22) (i := 0) (f := 20) (val := .ref (qa_a y 38 0)) E hC Nat.one_pos rfl rfl (by decide) f_MD_55 rfl rfl d_MD_play_34 ?_
            refine lv_bipush (v := 12) hx hb d_MD_play_37 (by decide) ?_
            refine lv_iload_n hx hb d_MD_play_39 rfl (lv_at hl 3 rfl) ?_
            refine lv_imul hx hb d_MD_play_40 ?_
            refine lv_iload hx hb d_MD_play_41 (lv_at hl 1 rfl) ?_
            refine lv_iadd hx hb d_MD_play_43 ?_
            refine qa_ild (k := 38) (i := 0) (j := ((12 * t) + pp)) E hC Nat.one_pos rfl rfl (qn_add (qn_mul rfl rfl) rfl) (show (12 * t) + pp < 48 by omega) d_MD_play_44 ?_
            refine lv_istore hx hb d_MD_play_45 hl (by decide) rfl (fun ls hl => ?_)
            have hl : lv_has ls 11 [(6, .int (u 38 0 ((12 * t) + pp))), (5, .int (nI 7)), (4, .int (nI pp)), (0, .ref (qa_a y 22 0)), (1, .int (nI t)), (2, .int (nI IB)), (3, .int (nI WB))] := hl
            refine lv_iinc (v := nI (pp + 1)) hx hb d_MD_play_47 hl (k := 2) rfl (nI_1 pp) (by decide) rfl (fun ls hl => ?_)
            have hl : lv_has ls 11 [(4, .int (nI (pp + 1))), (6, .int (u 38 0 ((12 * t) + pp))), (5, .int (nI 7)), (0, .ref (qa_a y 22 0)), (1, .int (nI t)), (2, .int (nI IB)), (3, .int (nI WB))] := hl
            refine lv_iload hx hb d_MD_play_50 (lv_at hl 2 rfl) ?_
            refine lv_iconst (v := 3) hx hb d_MD_play_52 (by decide) ?_
            refine lv_icmp_ge hx hb d_MD_play_53 rfl (fun _ => ?_) (fun h9 => absurd (by decide) h9)
            refine lv_iload hx hb d_MD_play_60 (lv_at hl 2 rfl) ?_
            refine lv_bipush (v := 8) hx hb d_MD_play_62 (by decide) ?_
            refine lv_icmp_ge hx hb d_MD_play_64 rfl (fun h9 => absurd h9 (by decide)) (fun _ => ?_)
            refine lv_iconst (v := 2) hx hb d_MD_play_67 (by decide) ?_
            refine lv_goto hx hb d_MD_play_68 rfl ?_
            refine lv_istore hx hb d_MD_play_72 hl (by decide) rfl (fun ls hl => ?_)
            have hl : lv_has ls 11 [(7, .int 2), (4, .int (nI (pp + 1))), (6, .int (u 38 0 ((12 * t) + pp))), (5, .int (nI 7)), (0, .ref (qa_a y 22 0)), (1, .int (nI t)), (2, .int (nI IB)), (3, .int (nI WB))] := hl
            refine lv_aload_n hx hb d_MD_play_74 rfl (lv_at hl 4 rfl) ?_
            refine qa_get (k := 22) (i := 0) (f := 25) (val := .int (u 22 0 25)) E hC Nat.one_pos rfl rfl (by decide) f_MD_129 rfl rfl d_MD_play_75 ?_
            refine lv_iload hx hb d_MD_play_78 (lv_at hl 0 rfl) ?_
            refine lv_icmp_ge hx hb d_MD_play_80 rfl (fun h9 => absurd h9 (by rw [j2]; decide)) (fun _ => ?_)
            refine lv_ldc (v := -1000000001) hx hb hown (hts _ k_MD_132) d_MD_play_83 ?_
            exact qa_mret E hC hr hlocks ⟨by rw [i6s]; exact (qm_ex_r (stk := [b]) hz eP (show qm_rf (nI 7) 1 b = -1000000001 from qm_rf_s (by decide)) (by decide)).symm, i4⟩ d_MD_play_85
          · have j2 : u 22 0 25 = nI (r.length + 2) := i2
            have j1 : r.length + 2 ≤ 6 := i1
            have m1 : u 22 0 25 - 1 = nI (r.length + 1) := by rw [j2]; exact nI_pred _
            have eb : u 42 0 (r.length + 1) = b := i3.1
            have m2 : u 22 0 25 - 2 = nI r.length := by rw [j2]; exact pk_sub (a := r.length + 2) (b := 2) (by omega)
            have ea : u 42 0 r.length = a := i3.2.1
            have ns : ¬ nI (r.length + 2) < qm_nee (nI 7) := by rw [show qm_nee (nI 7) = nI 2 from by decide]; exact nI_nlt (by omega) (by omega)
            refine lv_iload hx hb d_MD_play_8 (lv_at hl 0 rfl) ?_
            refine lv_aload_n hx hb d_MD_play_10 rfl (lv_at hl 1 rfl) ?_
            refine qa_get (k := 22) (i := 0) (f := 21) (val := .ref (qa_a y 39 0)) E hC Nat.one_pos rfl rfl (by decide) f_MD_58 rfl rfl d_MD_play_11 ?_
            refine lv_iload_n hx hb d_MD_play_14 rfl (lv_at hl 2 rfl) ?_
            refine qa_ild (k := 39) (i := 0) (j := t) E hC Nat.one_pos rfl rfl rfl ht d_MD_play_15 ?_
            refine lv_icmp_ge hx hb d_MD_play_16 rfl (fun h9 => absurd h9 (by rw [hq]; exact nI_ge hz (by omega))) (fun _ => ?_)
            refine lv_aload_n hx hb d_MD_play_19 rfl (lv_at hl 1 rfl) ?_
            refine qa_get (k := 22) (i := 0) (f := 19) (val := .ref (qa_a y 37 0)) E hC Nat.one_pos rfl rfl (by decide) f_MD_52 rfl rfl d_MD_play_20 ?_
            refine lv_bipush (v := 12) hx hb d_MD_play_23 (by decide) ?_
            refine lv_iload_n hx hb d_MD_play_25 rfl (lv_at hl 2 rfl) ?_
            refine lv_imul hx hb d_MD_play_26 ?_
            refine lv_iload hx hb d_MD_play_27 (lv_at hl 0 rfl) ?_
            refine lv_iadd hx hb d_MD_play_29 ?_
            refine qa_ild (k := 37) (i := 0) (j := ((12 * t) + pp)) E hC Nat.one_pos rfl rfl (qn_add (qn_mul rfl rfl) rfl) (show (12 * t) + pp < 48 by omega) d_MD_play_30 ?_
            rw [eo]
            refine lv_istore hx hb d_MD_play_31 hl (by decide) rfl (fun ls hl => ?_)
            have hl : lv_has ls 11 [(5, .int (nI 7)), (4, .int (nI pp)), (0, .ref (qa_a y 22 0)), (1, .int (nI t)), (2, .int (nI IB)), (3, .int (nI WB))] := hl
            refine lv_aload_n hx hb d_MD_play_33 rfl (lv_at hl 2 rfl) ?_
            refine qa_get (k := 22) (i := 0) (f := 20) (val := .ref (qa_a y 38 0)) E hC Nat.one_pos rfl rfl (by decide) f_MD_55 rfl rfl d_MD_play_34 ?_
            refine lv_bipush (v := 12) hx hb d_MD_play_37 (by decide) ?_
            refine lv_iload_n hx hb d_MD_play_39 rfl (lv_at hl 3 rfl) ?_
            refine lv_imul hx hb d_MD_play_40 ?_
            refine lv_iload hx hb d_MD_play_41 (lv_at hl 1 rfl) ?_
            refine lv_iadd hx hb d_MD_play_43 ?_
            refine qa_ild (k := 38) (i := 0) (j := ((12 * t) + pp)) E hC Nat.one_pos rfl rfl (qn_add (qn_mul rfl rfl) rfl) (show (12 * t) + pp < 48 by omega) d_MD_play_44 ?_
            refine lv_istore hx hb d_MD_play_45 hl (by decide) rfl (fun ls hl => ?_)
            have hl : lv_has ls 11 [(6, .int (u 38 0 ((12 * t) + pp))), (5, .int (nI 7)), (4, .int (nI pp)), (0, .ref (qa_a y 22 0)), (1, .int (nI t)), (2, .int (nI IB)), (3, .int (nI WB))] := hl
            refine lv_iinc (v := nI (pp + 1)) hx hb d_MD_play_47 hl (k := 2) rfl (nI_1 pp) (by decide) rfl (fun ls hl => ?_)
            have hl : lv_has ls 11 [(4, .int (nI (pp + 1))), (6, .int (u 38 0 ((12 * t) + pp))), (5, .int (nI 7)), (0, .ref (qa_a y 22 0)), (1, .int (nI t)), (2, .int (nI IB)), (3, .int (nI WB))] := hl
            refine lv_iload hx hb d_MD_play_50 (lv_at hl 2 rfl) ?_
            refine lv_iconst (v := 3) hx hb d_MD_play_52 (by decide) ?_
            refine lv_icmp_ge hx hb d_MD_play_53 rfl (fun _ => ?_) (fun h9 => absurd (by decide) h9)
            refine lv_iload hx hb d_MD_play_60 (lv_at hl 2 rfl) ?_
            refine lv_bipush (v := 8) hx hb d_MD_play_62 (by decide) ?_
            refine lv_icmp_ge hx hb d_MD_play_64 rfl (fun h9 => absurd h9 (by decide)) (fun _ => ?_)
            refine lv_iconst (v := 2) hx hb d_MD_play_67 (by decide) ?_
            refine lv_goto hx hb d_MD_play_68 rfl ?_
            refine lv_istore hx hb d_MD_play_72 hl (by decide) rfl (fun ls hl => ?_)
            have hl : lv_has ls 11 [(7, .int 2), (4, .int (nI (pp + 1))), (6, .int (u 38 0 ((12 * t) + pp))), (5, .int (nI 7)), (0, .ref (qa_a y 22 0)), (1, .int (nI t)), (2, .int (nI IB)), (3, .int (nI WB))] := hl
            refine lv_aload_n hx hb d_MD_play_74 rfl (lv_at hl 4 rfl) ?_
            refine qa_get (k := 22) (i := 0) (f := 25) (val := .int (u 22 0 25)) E hC Nat.one_pos rfl rfl (by decide) f_MD_129 rfl rfl d_MD_play_75 ?_
            refine lv_iload hx hb d_MD_play_78 (lv_at hl 0 rfl) ?_
            refine lv_icmp_ge hx hb d_MD_play_80 rfl (fun _ => ?_) (fun h9 => absurd (by rw [j2]; exact nI_le (a := 2) (by omega) (by omega)) h9)
            refine lv_aload_n hx hb d_MD_play_86 rfl (lv_at hl 4 rfl) ?_
            refine qa_get (k := 22) (i := 0) (f := 25) (val := .int (u 22 0 25)) E hC Nat.one_pos rfl rfl (by decide) f_MD_129 rfl rfl d_MD_play_87 ?_
            refine lv_if_le hx hb d_MD_play_90 rfl (fun h9 => absurd h9 (by rw [j2]; exact nI_nle (by omega) (by omega))) (fun _ => ?_)
            refine lv_aload_n hx hb d_MD_play_93 rfl (lv_at hl 4 rfl) ?_
            refine qa_get (k := 22) (i := 0) (f := 24) (val := .ref (qa_a y 42 0)) E hC Nat.one_pos rfl rfl (by decide) f_MD_67 rfl rfl d_MD_play_94 ?_
            refine lv_aload_n hx hb d_MD_play_97 rfl (lv_at hl 4 rfl) ?_
            refine qa_get (k := 22) (i := 0) (f := 25) (val := .int (u 22 0 25)) E hC Nat.one_pos rfl rfl (by decide) f_MD_129 rfl rfl d_MD_play_98 ?_
            refine lv_iconst (v := 1) hx hb d_MD_play_101 (by decide) ?_
            refine lv_isub hx hb d_MD_play_102 ?_
            refine qa_ild (k := 42) (i := 0) (j := (r.length + 1)) E hC Nat.one_pos rfl rfl m1 (show r.length + 1 < 6 by omega) d_MD_play_103 ?_
            rw [eb]
            refine lv_goto hx hb d_MD_play_104 rfl ?_
            refine lv_istore hx hb d_MD_play_108 hl (by decide) rfl (fun ls hl => ?_)
            have hl : lv_has ls 11 [(8, .int b), (7, .int 2), (4, .int (nI (pp + 1))), (6, .int (u 38 0 ((12 * t) + pp))), (5, .int (nI 7)), (0, .ref (qa_a y 22 0)), (1, .int (nI t)), (2, .int (nI IB)), (3, .int (nI WB))] := hl
            refine lv_aload_n hx hb d_MD_play_110 rfl (lv_at hl 5 rfl) ?_
            refine qa_get (k := 22) (i := 0) (f := 25) (val := .int (u 22 0 25)) E hC Nat.one_pos rfl rfl (by decide) f_MD_129 rfl rfl d_MD_play_111 ?_
            refine lv_iconst (v := 1) hx hb d_MD_play_114 (by decide) ?_
            refine lv_icmp_le hx hb d_MD_play_115 rfl (fun h9 => absurd h9 (by rw [j2]; exact nI_ge (b := (r.length + 2)) (a := 1) (by omega) (by omega))) (fun _ => ?_)
            refine lv_aload_n hx hb d_MD_play_118 rfl (lv_at hl 5 rfl) ?_
            refine qa_get (k := 22) (i := 0) (f := 24) (val := .ref (qa_a y 42 0)) E hC Nat.one_pos rfl rfl (by decide) f_MD_67 rfl rfl d_MD_play_119 ?_
            refine lv_aload_n hx hb d_MD_play_122 rfl (lv_at hl 5 rfl) ?_
            refine qa_get (k := 22) (i := 0) (f := 25) (val := .int (u 22 0 25)) E hC Nat.one_pos rfl rfl (by decide) f_MD_129 rfl rfl d_MD_play_123 ?_
            refine lv_iconst (v := 2) hx hb d_MD_play_126 (by decide) ?_
            refine lv_isub hx hb d_MD_play_127 ?_
            refine qa_ild (k := 42) (i := 0) (j := r.length) E hC Nat.one_pos rfl rfl m2 (show r.length < 6 by omega) d_MD_play_128 ?_
            rw [ea]
            refine lv_goto hx hb d_MD_play_129 rfl ?_
            refine lv_istore hx hb d_MD_play_133 hl (by decide) rfl (fun ls hl => ?_)
            have hl : lv_has ls 11 [(9, .int a), (8, .int b), (7, .int 2), (4, .int (nI (pp + 1))), (6, .int (u 38 0 ((12 * t) + pp))), (5, .int (nI 7)), (0, .ref (qa_a y 22 0)), (1, .int (nI t)), (2, .int (nI IB)), (3, .int (nI WB))] := hl
            refine lv_iload hx hb d_MD_play_135 (lv_at hl 5 rfl) ?_
            refine lv_bipush (v := 6) hx hb d_MD_play_137 (by decide) ?_
            refine lv_icmp_ne hx hb d_MD_play_139 rfl (fun _ => ?_) (fun h9 => absurd h9 (by decide))
            refine lv_iload hx hb d_MD_play_150 (lv_at hl 5 rfl) ?_
            refine lv_iconst (v := 3) hx hb d_MD_play_152 (by decide) ?_
            refine lv_icmp_lt hx hb d_MD_play_153 rfl (fun h9 => absurd h9 (by decide)) (fun _ => ?_)
            refine lv_iload hx hb d_MD_play_156 (lv_at hl 5 rfl) ?_
            refine lv_bipush (v := 9) hx hb d_MD_play_158 (by decide) ?_
            refine lv_icmp_ne hx hb d_MD_play_160 rfl (fun _ => ?_) (fun h9 => absurd h9 (by decide))
            refine lv_iload hx hb d_MD_play_175 (lv_at hl 5 rfl) ?_
            refine lv_bipush (v := 8) hx hb d_MD_play_177 (by decide) ?_
            refine lv_icmp_ne hx hb d_MD_play_179 rfl (fun _ => ?_) (fun h9 => absurd h9 (by decide))
            refine lv_iload hx hb d_MD_play_212 (lv_at hl 2 rfl) ?_
            refine lv_iconst (v := 2) hx hb d_MD_play_214 (by decide) ?_
            refine lv_icmp_ne hx hb d_MD_play_215 rfl (fun h9 => absurd rfl h9) (fun _ => ?_)
            refine lv_iload hx hb d_MD_play_218 (lv_at hl 5 rfl) ?_
            refine lv_iload hx hb d_MD_play_220 (lv_at hl 0 rfl) ?_
            refine lv_iload hx hb d_MD_play_222 (lv_at hl 1 rfl) ?_
            refine qa_pT (As := [.int (nI 7), .int a, .int b]) F (c_MD_two l (nI 7) a b (fun q9 => absurd q9 (by decide))) k_MD_135 (qa_fitR (by decide) (by decide)) rfl hl.1 rfl (Nat.le_of_ble_eq_true rfl) d_MD_play_224 ?_
            refine lv_istore hx hb d_MD_play_227 hl (by decide) rfl (fun ls hl => ?_)
            have hl : lv_has ls 11 [(10, .int (qm_two (nI 7) a b)), (9, .int a), (8, .int b), (7, .int 2), (4, .int (nI (pp + 1))), (6, .int (u 38 0 ((12 * t) + pp))), (5, .int (nI 7)), (0, .ref (qa_a y 22 0)), (1, .int (nI t)), (2, .int (nI IB)), (3, .int (nI WB))] := hl
            refine lv_aload_n hx hb d_MD_play_229 rfl (lv_at hl 7 rfl) ?_
            refine lv_dup hx hb d_MD_play_230 rfl ?_
            refine qa_get (k := 22) (i := 0) (f := 25) (val := .int (u 22 0 25)) E hC Nat.one_pos rfl rfl (by decide) f_MD_129 rfl rfl d_MD_play_231 ?_
            refine lv_iconst (v := 2) hx hb d_MD_play_234 (by decide) ?_
            refine lv_isub hx hb d_MD_play_235 ?_
            rw [m2]
            refine qa_put (k := 22) (i := 0) (f := 25) E hC Nat.one_pos rfl rfl (by decide) f_MD_129 rfl rfl rfl rfl d_MD_play_236 (fun H locs hC => ?_)
            refine lv_aload_n hx hb d_MD_play_239 rfl (lv_at hl 7 rfl) ?_
            refine lv_iload hx hb d_MD_play_240 (lv_at hl 0 rfl) ?_
            have d2 : (qa_up u 22 0 25 (nI r.length)) 22 0 25 = nI r.length := qa_up_s
            refine qa_mVv (k := 22) (i := 0) (As := [.int (qm_two (nI 7) a b)]) E hC (c_MD_push l y (qa_up u 22 0 25 (nI r.length)) r.length (qm_two (nI 7) a b) d2 (by omega)) Nat.one_pos rfl rfl k_MD_138 (qa_fitR (by decide) (by decide)) rfl hl.1 rfl (Nat.le_of_ble_eq_true rfl) d_MD_play_242 (fun u14 H locs hp14 hC => ?_)
            refine lv_goto hx hb d_MD_play_245 rfl ?_
            refine lv_goto hx hb d_MD_play_304 rfl ?_
            refine ih (pp + 1) u14 H locs ((qm_two (nI 7) a b) :: r) ls (by omega) (by omega) hC ⟨?_, ?_, ⟨?_, ?_⟩, ?_, ?_⟩ (lv_sub hl [4, 7, 8, 9, 10] rfl)
            · show r.length + 1 ≤ 6; omega
            · rw [hp14]; exact qa_up_s
            · rw [hp14, qa_up_kk (by decide)]; exact qa_up_s
            · refine qm_st_n i3.2.2 (fun q hq => ?_)
              have hq : q < r.length := hq
              rw [hp14, qa_up_kk (by decide), qa_up_f (by omega), qa_up_kk (by decide)]
            · intro c b8 f h1 h2; rw [hp14, qa_up_x (fun q9 => h1 ⟨q9.1, q9.2.2⟩), qa_up_k h2, qa_up_x (fun q9 => h1 ⟨q9.1, q9.2.2⟩)]; exact i4 c b8 f h1 h2
            · rw [i6s]; exact (qm_ex_2 hz eP (show qm_rf (nI 7) (r.length + 2) b = 0 from qm_rf_ok ns (fun q9 => absurd q9 (by decide)) (fun q9 => absurd q9 (by decide))) (by decide) (by decide)).symm
        · have eo : u 37 0 (12 * t + pp) = nI 8 := q37.trans eP
          rw [eP] at hok
          obtain ⟨j, hj, eX⟩ := hok.2.2.2 (by decide)
          rcases stk with _ | ⟨b, _ | ⟨a, r⟩⟩
          · have j2 : u 22 0 25 = nI 0 := i2
            refine lv_iload hx hb d_MD_play_8 (lv_at hl 0 rfl) ?_
            refine lv_aload_n hx hb d_MD_play_10 rfl (lv_at hl 1 rfl) ?_
            refine qa_get (k := 22) (i := 0) (f := 21) (val := .ref (qa_a y 39 0)) E hC Nat.one_pos rfl rfl (by decide) f_MD_58 rfl rfl d_MD_play_11 ?_
            refine lv_iload_n hx hb d_MD_play_14 rfl (lv_at hl 2 rfl) ?_
            refine qa_ild (k := 39) (i := 0) (j := t) E hC Nat.one_pos rfl rfl rfl ht d_MD_play_15 ?_
            refine lv_icmp_ge hx hb d_MD_play_16 rfl (fun h9 => absurd h9 (by rw [hq]; exact nI_ge hz (by omega))) (fun _ => ?_)
            refine lv_aload_n hx hb d_MD_play_19 rfl (lv_at hl 1 rfl) ?_
            refine qa_get (k := 22) (i := 0) (f := 19) (val := .ref (qa_a y 37 0)) E hC Nat.one_pos rfl rfl (by decide) f_MD_52 rfl rfl d_MD_play_20 ?_
            refine lv_bipush (v := 12) hx hb d_MD_play_23 (by decide) ?_
            refine lv_iload_n hx hb d_MD_play_25 rfl (lv_at hl 2 rfl) ?_
            refine lv_imul hx hb d_MD_play_26 ?_
            refine lv_iload hx hb d_MD_play_27 (lv_at hl 0 rfl) ?_
            refine lv_iadd hx hb d_MD_play_29 ?_
            refine qa_ild (k := 37) (i := 0) (j := ((12 * t) + pp)) E hC Nat.one_pos rfl rfl (qn_add (qn_mul rfl rfl) rfl) (show (12 * t) + pp < 48 by omega) d_MD_play_30 ?_
            rw [eo]
            refine lv_istore hx hb d_MD_play_31 hl (by decide) rfl (fun ls hl => ?_)
            have hl : lv_has ls 11 [(5, .int (nI 8)), (4, .int (nI pp)), (0, .ref (qa_a y 22 0)), (1, .int (nI t)), (2, .int (nI IB)), (3, .int (nI WB))] := hl
            refine lv_aload_n hx hb d_MD_play_33 rfl (lv_at hl 2 rfl) ?_
            refine qa_get (k := 22) (i := 0) (f := 20) (val := .ref (qa_a y 38 0)) E hC Nat.one_pos rfl rfl (by decide) f_MD_55 rfl rfl d_MD_play_34 ?_
            refine lv_bipush (v := 12) hx hb d_MD_play_37 (by decide) ?_
            refine lv_iload_n hx hb d_MD_play_39 rfl (lv_at hl 3 rfl) ?_
            refine lv_imul hx hb d_MD_play_40 ?_
            refine lv_iload hx hb d_MD_play_41 (lv_at hl 1 rfl) ?_
            refine lv_iadd hx hb d_MD_play_43 ?_
            refine qa_ild (k := 38) (i := 0) (j := ((12 * t) + pp)) E hC Nat.one_pos rfl rfl (qn_add (qn_mul rfl rfl) rfl) (show (12 * t) + pp < 48 by omega) d_MD_play_44 ?_
            rw [q38, eX]
            refine lv_istore hx hb d_MD_play_45 hl (by decide) rfl (fun ls hl => ?_)
            have hl : lv_has ls 11 [(6, .int (nI j)), (5, .int (nI 8)), (4, .int (nI pp)), (0, .ref (qa_a y 22 0)), (1, .int (nI t)), (2, .int (nI IB)), (3, .int (nI WB))] := hl
            refine lv_iinc (v := nI (pp + 1)) hx hb d_MD_play_47 hl (k := 2) rfl (nI_1 pp) (by decide) rfl (fun ls hl => ?_)
            have hl : lv_has ls 11 [(4, .int (nI (pp + 1))), (6, .int (nI j)), (5, .int (nI 8)), (0, .ref (qa_a y 22 0)), (1, .int (nI t)), (2, .int (nI IB)), (3, .int (nI WB))] := hl
            refine lv_iload hx hb d_MD_play_50 (lv_at hl 2 rfl) ?_
            refine lv_iconst (v := 3) hx hb d_MD_play_52 (by decide) ?_
            refine lv_icmp_ge hx hb d_MD_play_53 rfl (fun _ => ?_) (fun h9 => absurd (by decide) h9)
            refine lv_iload hx hb d_MD_play_60 (lv_at hl 2 rfl) ?_
            refine lv_bipush (v := 8) hx hb d_MD_play_62 (by decide) ?_
            refine lv_icmp_ge hx hb d_MD_play_64 rfl (fun _ => ?_) (fun h9 => absurd (by decide) h9)
            refine lv_iconst (v := 1) hx hb d_MD_play_71 (by decide) ?_
            refine lv_istore hx hb d_MD_play_72 hl (by decide) rfl (fun ls hl => ?_)
            have hl : lv_has ls 11 [(7, .int 1), (4, .int (nI (pp + 1))), (6, .int (nI j)), (5, .int (nI 8)), (0, .ref (qa_a y 22 0)), (1, .int (nI t)), (2, .int (nI IB)), (3, .int (nI WB))] := hl
            refine lv_aload_n hx hb d_MD_play_74 rfl (lv_at hl 4 rfl) ?_
            refine qa_get (k := 22) (i := 0) (f := 25) (val := .int (u 22 0 25)) E hC Nat.one_pos rfl rfl (by decide) f_MD_129 rfl rfl d_MD_play_75 ?_
            refine lv_iload hx hb d_MD_play_78 (lv_at hl 0 rfl) ?_
            refine lv_icmp_ge hx hb d_MD_play_80 rfl (fun h9 => absurd h9 (by rw [j2]; decide)) (fun _ => ?_)
            refine lv_ldc (v := -1000000001) hx hb hown (hts _ k_MD_132) d_MD_play_83 ?_
            exact qa_mret E hC hr hlocks ⟨by rw [i6s]; exact (qm_ex_r (stk := []) hz eP (show qm_rf (nI 8) 0 0 = -1000000001 from qm_rf_s (by decide)) (by decide)).symm, i4⟩ d_MD_play_85
          · have j2 : u 22 0 25 = nI 1 := i2
            have m1 : u 22 0 25 - 1 = nI 0 := by rw [j2]; exact nI_pred _
            have eb : u 42 0 0 = b := i3.1
            have ns : ¬ nI 1 < qm_nee (nI 8) := by decide
            refine lv_iload hx hb d_MD_play_8 (lv_at hl 0 rfl) ?_
            refine lv_aload_n hx hb d_MD_play_10 rfl (lv_at hl 1 rfl) ?_
            refine qa_get (k := 22) (i := 0) (f := 21) (val := .ref (qa_a y 39 0)) E hC Nat.one_pos rfl rfl (by decide) f_MD_58 rfl rfl d_MD_play_11 ?_
            refine lv_iload_n hx hb d_MD_play_14 rfl (lv_at hl 2 rfl) ?_
            refine qa_ild (k := 39) (i := 0) (j := t) E hC Nat.one_pos rfl rfl rfl ht d_MD_play_15 ?_
            refine lv_icmp_ge hx hb d_MD_play_16 rfl (fun h9 => absurd h9 (by rw [hq]; exact nI_ge hz (by omega))) (fun _ => ?_)
            refine lv_aload_n hx hb d_MD_play_19 rfl (lv_at hl 1 rfl) ?_
            refine qa_get (k := 22) (i := 0) (f := 19) (val := .ref (qa_a y 37 0)) E hC Nat.one_pos rfl rfl (by decide) f_MD_52 rfl rfl d_MD_play_20 ?_
            refine lv_bipush (v := 12) hx hb d_MD_play_23 (by decide) ?_
            refine lv_iload_n hx hb d_MD_play_25 rfl (lv_at hl 2 rfl) ?_
            refine lv_imul hx hb d_MD_play_26 ?_
            refine lv_iload hx hb d_MD_play_27 (lv_at hl 0 rfl) ?_
            refine lv_iadd hx hb d_MD_play_29 ?_
            refine qa_ild (k := 37) (i := 0) (j := ((12 * t) + pp)) E hC Nat.one_pos rfl rfl (qn_add (qn_mul rfl rfl) rfl) (show (12 * t) + pp < 48 by omega) d_MD_play_30 ?_
            rw [eo]
            refine lv_istore hx hb d_MD_play_31 hl (by decide) rfl (fun ls hl => ?_)
            have hl : lv_has ls 11 [(5, .int (nI 8)), (4, .int (nI pp)), (0, .ref (qa_a y 22 0)), (1, .int (nI t)), (2, .int (nI IB)), (3, .int (nI WB))] := hl
            refine lv_aload_n hx hb d_MD_play_33 rfl (lv_at hl 2 rfl) ?_
            refine qa_get (k := 22) (i := 0) (f := 20) (val := .ref (qa_a y 38 0)) E hC Nat.one_pos rfl rfl (by decide) f_MD_55 rfl rfl d_MD_play_34 ?_
            refine lv_bipush (v := 12) hx hb d_MD_play_37 (by decide) ?_
            refine lv_iload_n hx hb d_MD_play_39 rfl (lv_at hl 3 rfl) ?_
            refine lv_imul hx hb d_MD_play_40 ?_
            refine lv_iload hx hb d_MD_play_41 (lv_at hl 1 rfl) ?_
            refine lv_iadd hx hb d_MD_play_43 ?_
            refine qa_ild (k := 38) (i := 0) (j := ((12 * t) + pp)) E hC Nat.one_pos rfl rfl (qn_add (qn_mul rfl rfl) rfl) (show (12 * t) + pp < 48 by omega) d_MD_play_44 ?_
            rw [q38, eX]
            refine lv_istore hx hb d_MD_play_45 hl (by decide) rfl (fun ls hl => ?_)
            have hl : lv_has ls 11 [(6, .int (nI j)), (5, .int (nI 8)), (4, .int (nI pp)), (0, .ref (qa_a y 22 0)), (1, .int (nI t)), (2, .int (nI IB)), (3, .int (nI WB))] := hl
            refine lv_iinc (v := nI (pp + 1)) hx hb d_MD_play_47 hl (k := 2) rfl (nI_1 pp) (by decide) rfl (fun ls hl => ?_)
            have hl : lv_has ls 11 [(4, .int (nI (pp + 1))), (6, .int (nI j)), (5, .int (nI 8)), (0, .ref (qa_a y 22 0)), (1, .int (nI t)), (2, .int (nI IB)), (3, .int (nI WB))] := hl
            refine lv_iload hx hb d_MD_play_50 (lv_at hl 2 rfl) ?_
            refine lv_iconst (v := 3) hx hb d_MD_play_52 (by decide) ?_
            refine lv_icmp_ge hx hb d_MD_play_53 rfl (fun _ => ?_) (fun h9 => absurd (by decide) h9)
            refine lv_iload hx hb d_MD_play_60 (lv_at hl 2 rfl) ?_
            refine lv_bipush (v := 8) hx hb d_MD_play_62 (by decide) ?_
            refine lv_icmp_ge hx hb d_MD_play_64 rfl (fun _ => ?_) (fun h9 => absurd (by decide) h9)
            refine lv_iconst (v := 1) hx hb d_MD_play_71 (by decide) ?_
            refine lv_istore hx hb d_MD_play_72 hl (by decide) rfl (fun ls hl => ?_)
            have hl : lv_has ls 11 [(7, .int 1), (4, .int (nI (pp + 1))), (6, .int (nI j)), (5, .int (nI 8)), (0, .ref (qa_a y 22 0)), (1, .int (nI t)), (2, .int (nI IB)), (3, .int (nI WB))] := hl
            refine lv_aload_n hx hb d_MD_play_74 rfl (lv_at hl 4 rfl) ?_
            refine qa_get (k := 22) (i := 0) (f := 25) (val := .int (u 22 0 25)) E hC Nat.one_pos rfl rfl (by decide) f_MD_129 rfl rfl d_MD_play_75 ?_
            refine lv_iload hx hb d_MD_play_78 (lv_at hl 0 rfl) ?_
            refine lv_icmp_ge hx hb d_MD_play_80 rfl (fun _ => ?_) (fun h9 => absurd (by rw [j2]; decide) h9)
            refine lv_aload_n hx hb d_MD_play_86 rfl (lv_at hl 4 rfl) ?_
            refine qa_get (k := 22) (i := 0) (f := 25) (val := .int (u 22 0 25)) E hC Nat.one_pos rfl rfl (by decide) f_MD_129 rfl rfl d_MD_play_87 ?_
            refine lv_if_le hx hb d_MD_play_90 rfl (fun h9 => absurd h9 (by rw [j2]; exact nI_nle (by omega) (by omega))) (fun _ => ?_)
            refine lv_aload_n hx hb d_MD_play_93 rfl (lv_at hl 4 rfl) ?_
            refine qa_get (k := 22) (i := 0) (f := 24) (val := .ref (qa_a y 42 0)) E hC Nat.one_pos rfl rfl (by decide) f_MD_67 rfl rfl d_MD_play_94 ?_
            refine lv_aload_n hx hb d_MD_play_97 rfl (lv_at hl 4 rfl) ?_
            refine qa_get (k := 22) (i := 0) (f := 25) (val := .int (u 22 0 25)) E hC Nat.one_pos rfl rfl (by decide) f_MD_129 rfl rfl d_MD_play_98 ?_
            refine lv_iconst (v := 1) hx hb d_MD_play_101 (by decide) ?_
            refine lv_isub hx hb d_MD_play_102 ?_
            refine qa_ild (k := 42) (i := 0) (j := 0) E hC Nat.one_pos rfl rfl m1 (show 0 < 6 by decide) d_MD_play_103 ?_
            rw [eb]
            refine lv_goto hx hb d_MD_play_104 rfl ?_
            refine lv_istore hx hb d_MD_play_108 hl (by decide) rfl (fun ls hl => ?_)
            have hl : lv_has ls 11 [(8, .int b), (7, .int 1), (4, .int (nI (pp + 1))), (6, .int (nI j)), (5, .int (nI 8)), (0, .ref (qa_a y 22 0)), (1, .int (nI t)), (2, .int (nI IB)), (3, .int (nI WB))] := hl
            refine lv_aload_n hx hb d_MD_play_110 rfl (lv_at hl 5 rfl) ?_
            refine qa_get (k := 22) (i := 0) (f := 25) (val := .int (u 22 0 25)) E hC Nat.one_pos rfl rfl (by decide) f_MD_129 rfl rfl d_MD_play_111 ?_
            refine lv_iconst (v := 1) hx hb d_MD_play_114 (by decide) ?_
            refine lv_icmp_le hx hb d_MD_play_115 rfl (fun _ => ?_) (fun h9 => absurd (by rw [j2]; decide) h9)
            refine lv_iconst (v := 0) hx hb d_MD_play_132 (by decide) ?_
            refine lv_istore hx hb d_MD_play_133 hl (by decide) rfl (fun ls hl => ?_)
            have hl : lv_has ls 11 [(9, .int 0), (8, .int b), (7, .int 1), (4, .int (nI (pp + 1))), (6, .int (nI j)), (5, .int (nI 8)), (0, .ref (qa_a y 22 0)), (1, .int (nI t)), (2, .int (nI IB)), (3, .int (nI WB))] := hl
            refine lv_iload hx hb d_MD_play_135 (lv_at hl 5 rfl) ?_
            refine lv_bipush (v := 6) hx hb d_MD_play_137 (by decide) ?_
            refine lv_icmp_ne hx hb d_MD_play_139 rfl (fun _ => ?_) (fun h9 => absurd h9 (by decide))
            refine lv_iload hx hb d_MD_play_150 (lv_at hl 5 rfl) ?_
            refine lv_iconst (v := 3) hx hb d_MD_play_152 (by decide) ?_
            refine lv_icmp_lt hx hb d_MD_play_153 rfl (fun h9 => absurd h9 (by decide)) (fun _ => ?_)
            refine lv_iload hx hb d_MD_play_156 (lv_at hl 5 rfl) ?_
            refine lv_bipush (v := 9) hx hb d_MD_play_158 (by decide) ?_
            refine lv_icmp_ne hx hb d_MD_play_160 rfl (fun _ => ?_) (fun h9 => absurd h9 (by decide))
            refine lv_iload hx hb d_MD_play_175 (lv_at hl 5 rfl) ?_
            refine lv_bipush (v := 8) hx hb d_MD_play_177 (by decide) ?_
            refine lv_icmp_ne hx hb d_MD_play_179 rfl (fun h9 => absurd (by decide) h9) (fun _ => ?_)
            refine lv_aload_n hx hb d_MD_play_182 rfl (lv_at hl 6 rfl) ?_
            refine lv_dup hx hb d_MD_play_183 rfl ?_
            refine qa_get (k := 22) (i := 0) (f := 25) (val := .int (u 22 0 25)) E hC Nat.one_pos rfl rfl (by decide) f_MD_129 rfl rfl d_MD_play_184 ?_
            refine lv_iconst (v := 1) hx hb d_MD_play_187 (by decide) ?_
            refine lv_isub hx hb d_MD_play_188 ?_
            rw [m1]
            refine qa_put (k := 22) (i := 0) (f := 25) E hC Nat.one_pos rfl rfl (by decide) f_MD_129 rfl rfl rfl rfl d_MD_play_189 (fun H locs hC => ?_)
            refine lv_iload hx hb d_MD_play_192 (lv_at hl 1 rfl) ?_
            refine lv_if_ne hx hb d_MD_play_194 rfl (fun h194 => ?_) (fun h194 => ?_)
            · refine lv_iload hx hb d_MD_play_205 (lv_at hl 3 rfl) ?_
              refine lv_istore hx hb d_MD_play_207 hl (by decide) rfl (fun ls hl => ?_)
              have hl : lv_has ls 11 [(4, .int (nI (pp + 1))), (9, .int 0), (8, .int b), (7, .int 1), (6, .int (nI j)), (5, .int (nI 8)), (0, .ref (qa_a y 22 0)), (1, .int (nI t)), (2, .int (nI IB)), (3, .int (nI WB))] := hl
              refine lv_goto hx hb d_MD_play_209 rfl ?_
              refine lv_goto hx hb d_MD_play_304 rfl ?_
              refine ih (pp + 1) (qa_up u 22 0 25 (nI 0)) H locs [] ls (by omega) (by omega) hC ⟨by decide, ?_, ?_, ?_, ?_⟩ (lv_sub hl [0, 6, 7, 8, 9] rfl)
              · exact qa_up_s
              · rw [qa_up_kk (by decide)]; exact i3.2
              · intro c b8 f h1 h2; rw [qa_up_x (fun q9 => h1 ⟨q9.1, q9.2.2⟩)]; exact i4 c b8 f h1 h2
              · rw [i6s]; exact (qm_ex_8 (stk := [b]) (k := 0) hz eP (show qm_rf (nI 8) 1 b = 0 from qm_rf_ok ns (fun q9 => absurd q9 (by decide)) (fun q9 => absurd q9 (by decide))) (if_neg h194)).symm
            · refine lv_iload hx hb d_MD_play_197 (lv_at hl 3 rfl) ?_
              refine lv_iload hx hb d_MD_play_199 (lv_at hl 4 rfl) ?_
              refine lv_iadd hx hb d_MD_play_201 ?_
              rw [nI_add (pp + 1) j]
              refine lv_goto hx hb d_MD_play_202 rfl ?_
              refine lv_istore hx hb d_MD_play_207 hl (by decide) rfl (fun ls hl => ?_)
              have hl : lv_has ls 11 [(4, .int (nI (pp + 1 + j))), (9, .int 0), (8, .int b), (7, .int 1), (6, .int (nI j)), (5, .int (nI 8)), (0, .ref (qa_a y 22 0)), (1, .int (nI t)), (2, .int (nI IB)), (3, .int (nI WB))] := hl
              refine lv_goto hx hb d_MD_play_209 rfl ?_
              refine lv_goto hx hb d_MD_play_304 rfl ?_
              refine ih (pp + 1 + j) (qa_up u 22 0 25 (nI 0)) H locs [] ls (by omega) (by omega) hC ⟨by decide, ?_, ?_, ?_, ?_⟩ (lv_sub hl [0, 6, 7, 8, 9] rfl)
              · exact qa_up_s
              · rw [qa_up_kk (by decide)]; exact i3.2
              · intro c b8 f h1 h2; rw [qa_up_x (fun q9 => h1 ⟨q9.1, q9.2.2⟩)]; exact i4 c b8 f h1 h2
              · rw [i6s]; exact (qm_ex_8 (stk := [b]) (k := j) hz eP (show qm_rf (nI 8) 1 b = 0 from qm_rf_ok ns (fun q9 => absurd q9 (by decide)) (fun q9 => absurd q9 (by decide))) (by show (if b = 0 then qm_ix (v 38 0 (12 * t + pp)) else 0) = j; rw [if_pos h194, eX, qm_ix_n (by omega)])).symm
          · have j2 : u 22 0 25 = nI (r.length + 2) := i2
            have j1 : r.length + 2 ≤ 6 := i1
            have m1 : u 22 0 25 - 1 = nI (r.length + 1) := by rw [j2]; exact nI_pred _
            have eb : u 42 0 (r.length + 1) = b := i3.1
            have m2 : u 22 0 25 - 2 = nI r.length := by rw [j2]; exact pk_sub (a := r.length + 2) (b := 2) (by omega)
            have ea : u 42 0 r.length = a := i3.2.1
            have ns : ¬ nI (r.length + 2) < qm_nee (nI 8) := by rw [show qm_nee (nI 8) = nI 1 from by decide]; exact nI_nlt (by omega) (by omega)
            refine lv_iload hx hb d_MD_play_8 (lv_at hl 0 rfl) ?_
            refine lv_aload_n hx hb d_MD_play_10 rfl (lv_at hl 1 rfl) ?_
            refine qa_get (k := 22) (i := 0) (f := 21) (val := .ref (qa_a y 39 0)) E hC Nat.one_pos rfl rfl (by decide) f_MD_58 rfl rfl d_MD_play_11 ?_
            refine lv_iload_n hx hb d_MD_play_14 rfl (lv_at hl 2 rfl) ?_
            refine qa_ild (k := 39) (i := 0) (j := t) E hC Nat.one_pos rfl rfl rfl ht d_MD_play_15 ?_
            refine lv_icmp_ge hx hb d_MD_play_16 rfl (fun h9 => absurd h9 (by rw [hq]; exact nI_ge hz (by omega))) (fun _ => ?_)
            refine lv_aload_n hx hb d_MD_play_19 rfl (lv_at hl 1 rfl) ?_
            refine qa_get (k := 22) (i := 0) (f := 19) (val := .ref (qa_a y 37 0)) E hC Nat.one_pos rfl rfl (by decide) f_MD_52 rfl rfl d_MD_play_20 ?_
            refine lv_bipush (v := 12) hx hb d_MD_play_23 (by decide) ?_
            refine lv_iload_n hx hb d_MD_play_25 rfl (lv_at hl 2 rfl) ?_
            refine lv_imul hx hb d_MD_play_26 ?_
            refine lv_iload hx hb d_MD_play_27 (lv_at hl 0 rfl) ?_
            refine lv_iadd hx hb d_MD_play_29 ?_
            refine qa_ild (k := 37) (i := 0) (j := ((12 * t) + pp)) E hC Nat.one_pos rfl rfl (qn_add (qn_mul rfl rfl) rfl) (show (12 * t) + pp < 48 by omega) d_MD_play_30 ?_
            rw [eo]
            refine lv_istore hx hb d_MD_play_31 hl (by decide) rfl (fun ls hl => ?_)
            have hl : lv_has ls 11 [(5, .int (nI 8)), (4, .int (nI pp)), (0, .ref (qa_a y 22 0)), (1, .int (nI t)), (2, .int (nI IB)), (3, .int (nI WB))] := hl
            refine lv_aload_n hx hb d_MD_play_33 rfl (lv_at hl 2 rfl) ?_
            refine qa_get (k := 22) (i := 0) (f := 20) (val := .ref (qa_a y 38 0)) E hC Nat.one_pos rfl rfl (by decide) f_MD_55 rfl rfl d_MD_play_34 ?_
            refine lv_bipush (v := 12) hx hb d_MD_play_37 (by decide) ?_
            refine lv_iload_n hx hb d_MD_play_39 rfl (lv_at hl 3 rfl) ?_
            refine lv_imul hx hb d_MD_play_40 ?_
            refine lv_iload hx hb d_MD_play_41 (lv_at hl 1 rfl) ?_
            refine lv_iadd hx hb d_MD_play_43 ?_
            refine qa_ild (k := 38) (i := 0) (j := ((12 * t) + pp)) E hC Nat.one_pos rfl rfl (qn_add (qn_mul rfl rfl) rfl) (show (12 * t) + pp < 48 by omega) d_MD_play_44 ?_
            rw [q38, eX]
            refine lv_istore hx hb d_MD_play_45 hl (by decide) rfl (fun ls hl => ?_)
            have hl : lv_has ls 11 [(6, .int (nI j)), (5, .int (nI 8)), (4, .int (nI pp)), (0, .ref (qa_a y 22 0)), (1, .int (nI t)), (2, .int (nI IB)), (3, .int (nI WB))] := hl
            refine lv_iinc (v := nI (pp + 1)) hx hb d_MD_play_47 hl (k := 2) rfl (nI_1 pp) (by decide) rfl (fun ls hl => ?_)
            have hl : lv_has ls 11 [(4, .int (nI (pp + 1))), (6, .int (nI j)), (5, .int (nI 8)), (0, .ref (qa_a y 22 0)), (1, .int (nI t)), (2, .int (nI IB)), (3, .int (nI WB))] := hl
            refine lv_iload hx hb d_MD_play_50 (lv_at hl 2 rfl) ?_
            refine lv_iconst (v := 3) hx hb d_MD_play_52 (by decide) ?_
            refine lv_icmp_ge hx hb d_MD_play_53 rfl (fun _ => ?_) (fun h9 => absurd (by decide) h9)
            refine lv_iload hx hb d_MD_play_60 (lv_at hl 2 rfl) ?_
            refine lv_bipush (v := 8) hx hb d_MD_play_62 (by decide) ?_
            refine lv_icmp_ge hx hb d_MD_play_64 rfl (fun _ => ?_) (fun h9 => absurd (by decide) h9)
            refine lv_iconst (v := 1) hx hb d_MD_play_71 (by decide) ?_
            refine lv_istore hx hb d_MD_play_72 hl (by decide) rfl (fun ls hl => ?_)
            have hl : lv_has ls 11 [(7, .int 1), (4, .int (nI (pp + 1))), (6, .int (nI j)), (5, .int (nI 8)), (0, .ref (qa_a y 22 0)), (1, .int (nI t)), (2, .int (nI IB)), (3, .int (nI WB))] := hl
            refine lv_aload_n hx hb d_MD_play_74 rfl (lv_at hl 4 rfl) ?_
            refine qa_get (k := 22) (i := 0) (f := 25) (val := .int (u 22 0 25)) E hC Nat.one_pos rfl rfl (by decide) f_MD_129 rfl rfl d_MD_play_75 ?_
            refine lv_iload hx hb d_MD_play_78 (lv_at hl 0 rfl) ?_
            refine lv_icmp_ge hx hb d_MD_play_80 rfl (fun _ => ?_) (fun h9 => absurd (by rw [j2]; exact nI_le (a := 1) (by omega) (by omega)) h9)
            refine lv_aload_n hx hb d_MD_play_86 rfl (lv_at hl 4 rfl) ?_
            refine qa_get (k := 22) (i := 0) (f := 25) (val := .int (u 22 0 25)) E hC Nat.one_pos rfl rfl (by decide) f_MD_129 rfl rfl d_MD_play_87 ?_
            refine lv_if_le hx hb d_MD_play_90 rfl (fun h9 => absurd h9 (by rw [j2]; exact nI_nle (by omega) (by omega))) (fun _ => ?_)
            refine lv_aload_n hx hb d_MD_play_93 rfl (lv_at hl 4 rfl) ?_
            refine qa_get (k := 22) (i := 0) (f := 24) (val := .ref (qa_a y 42 0)) E hC Nat.one_pos rfl rfl (by decide) f_MD_67 rfl rfl d_MD_play_94 ?_
            refine lv_aload_n hx hb d_MD_play_97 rfl (lv_at hl 4 rfl) ?_
            refine qa_get (k := 22) (i := 0) (f := 25) (val := .int (u 22 0 25)) E hC Nat.one_pos rfl rfl (by decide) f_MD_129 rfl rfl d_MD_play_98 ?_
            refine lv_iconst (v := 1) hx hb d_MD_play_101 (by decide) ?_
            refine lv_isub hx hb d_MD_play_102 ?_
            refine qa_ild (k := 42) (i := 0) (j := (r.length + 1)) E hC Nat.one_pos rfl rfl m1 (show r.length + 1 < 6 by omega) d_MD_play_103 ?_
            rw [eb]
            refine lv_goto hx hb d_MD_play_104 rfl ?_
            refine lv_istore hx hb d_MD_play_108 hl (by decide) rfl (fun ls hl => ?_)
            have hl : lv_has ls 11 [(8, .int b), (7, .int 1), (4, .int (nI (pp + 1))), (6, .int (nI j)), (5, .int (nI 8)), (0, .ref (qa_a y 22 0)), (1, .int (nI t)), (2, .int (nI IB)), (3, .int (nI WB))] := hl
            refine lv_aload_n hx hb d_MD_play_110 rfl (lv_at hl 5 rfl) ?_
            refine qa_get (k := 22) (i := 0) (f := 25) (val := .int (u 22 0 25)) E hC Nat.one_pos rfl rfl (by decide) f_MD_129 rfl rfl d_MD_play_111 ?_
            refine lv_iconst (v := 1) hx hb d_MD_play_114 (by decide) ?_
            refine lv_icmp_le hx hb d_MD_play_115 rfl (fun h9 => absurd h9 (by rw [j2]; exact nI_ge (b := (r.length + 2)) (a := 1) (by omega) (by omega))) (fun _ => ?_)
            refine lv_aload_n hx hb d_MD_play_118 rfl (lv_at hl 5 rfl) ?_
            refine qa_get (k := 22) (i := 0) (f := 24) (val := .ref (qa_a y 42 0)) E hC Nat.one_pos rfl rfl (by decide) f_MD_67 rfl rfl d_MD_play_119 ?_
            refine lv_aload_n hx hb d_MD_play_122 rfl (lv_at hl 5 rfl) ?_
            refine qa_get (k := 22) (i := 0) (f := 25) (val := .int (u 22 0 25)) E hC Nat.one_pos rfl rfl (by decide) f_MD_129 rfl rfl d_MD_play_123 ?_
            refine lv_iconst (v := 2) hx hb d_MD_play_126 (by decide) ?_
            refine lv_isub hx hb d_MD_play_127 ?_
            refine qa_ild (k := 42) (i := 0) (j := r.length) E hC Nat.one_pos rfl rfl m2 (show r.length < 6 by omega) d_MD_play_128 ?_
            rw [ea]
            refine lv_goto hx hb d_MD_play_129 rfl ?_
            refine lv_istore hx hb d_MD_play_133 hl (by decide) rfl (fun ls hl => ?_)
            have hl : lv_has ls 11 [(9, .int a), (8, .int b), (7, .int 1), (4, .int (nI (pp + 1))), (6, .int (nI j)), (5, .int (nI 8)), (0, .ref (qa_a y 22 0)), (1, .int (nI t)), (2, .int (nI IB)), (3, .int (nI WB))] := hl
            refine lv_iload hx hb d_MD_play_135 (lv_at hl 5 rfl) ?_
            refine lv_bipush (v := 6) hx hb d_MD_play_137 (by decide) ?_
            refine lv_icmp_ne hx hb d_MD_play_139 rfl (fun _ => ?_) (fun h9 => absurd h9 (by decide))
            refine lv_iload hx hb d_MD_play_150 (lv_at hl 5 rfl) ?_
            refine lv_iconst (v := 3) hx hb d_MD_play_152 (by decide) ?_
            refine lv_icmp_lt hx hb d_MD_play_153 rfl (fun h9 => absurd h9 (by decide)) (fun _ => ?_)
            refine lv_iload hx hb d_MD_play_156 (lv_at hl 5 rfl) ?_
            refine lv_bipush (v := 9) hx hb d_MD_play_158 (by decide) ?_
            refine lv_icmp_ne hx hb d_MD_play_160 rfl (fun _ => ?_) (fun h9 => absurd h9 (by decide))
            refine lv_iload hx hb d_MD_play_175 (lv_at hl 5 rfl) ?_
            refine lv_bipush (v := 8) hx hb d_MD_play_177 (by decide) ?_
            refine lv_icmp_ne hx hb d_MD_play_179 rfl (fun h9 => absurd (by decide) h9) (fun _ => ?_)
            refine lv_aload_n hx hb d_MD_play_182 rfl (lv_at hl 6 rfl) ?_
            refine lv_dup hx hb d_MD_play_183 rfl ?_
            refine qa_get (k := 22) (i := 0) (f := 25) (val := .int (u 22 0 25)) E hC Nat.one_pos rfl rfl (by decide) f_MD_129 rfl rfl d_MD_play_184 ?_
            refine lv_iconst (v := 1) hx hb d_MD_play_187 (by decide) ?_
            refine lv_isub hx hb d_MD_play_188 ?_
            rw [m1]
            refine qa_put (k := 22) (i := 0) (f := 25) E hC Nat.one_pos rfl rfl (by decide) f_MD_129 rfl rfl rfl rfl d_MD_play_189 (fun H locs hC => ?_)
            refine lv_iload hx hb d_MD_play_192 (lv_at hl 1 rfl) ?_
            refine lv_if_ne hx hb d_MD_play_194 rfl (fun h194 => ?_) (fun h194 => ?_)
            · refine lv_iload hx hb d_MD_play_205 (lv_at hl 3 rfl) ?_
              refine lv_istore hx hb d_MD_play_207 hl (by decide) rfl (fun ls hl => ?_)
              have hl : lv_has ls 11 [(4, .int (nI (pp + 1))), (9, .int a), (8, .int b), (7, .int 1), (6, .int (nI j)), (5, .int (nI 8)), (0, .ref (qa_a y 22 0)), (1, .int (nI t)), (2, .int (nI IB)), (3, .int (nI WB))] := hl
              refine lv_goto hx hb d_MD_play_209 rfl ?_
              refine lv_goto hx hb d_MD_play_304 rfl ?_
              refine ih (pp + 1) (qa_up u 22 0 25 (nI (r.length + 1))) H locs (a :: r) ls (by omega) (by omega) hC ⟨by show r.length + 1 ≤ 6; omega, ?_, ?_, ?_, ?_⟩ (lv_sub hl [0, 6, 7, 8, 9] rfl)
              · exact qa_up_s
              · rw [qa_up_kk (by decide)]; exact i3.2
              · intro c b8 f h1 h2; rw [qa_up_x (fun q9 => h1 ⟨q9.1, q9.2.2⟩)]; exact i4 c b8 f h1 h2
              · rw [i6s]; exact (qm_ex_8 (stk := (b :: a :: r)) (k := 0) hz eP (show qm_rf (nI 8) (r.length + 2) b = 0 from qm_rf_ok ns (fun q9 => absurd q9 (by decide)) (fun q9 => absurd q9 (by decide))) (if_neg h194)).symm
            · refine lv_iload hx hb d_MD_play_197 (lv_at hl 3 rfl) ?_
              refine lv_iload hx hb d_MD_play_199 (lv_at hl 4 rfl) ?_
              refine lv_iadd hx hb d_MD_play_201 ?_
              rw [nI_add (pp + 1) j]
              refine lv_goto hx hb d_MD_play_202 rfl ?_
              refine lv_istore hx hb d_MD_play_207 hl (by decide) rfl (fun ls hl => ?_)
              have hl : lv_has ls 11 [(4, .int (nI (pp + 1 + j))), (9, .int a), (8, .int b), (7, .int 1), (6, .int (nI j)), (5, .int (nI 8)), (0, .ref (qa_a y 22 0)), (1, .int (nI t)), (2, .int (nI IB)), (3, .int (nI WB))] := hl
              refine lv_goto hx hb d_MD_play_209 rfl ?_
              refine lv_goto hx hb d_MD_play_304 rfl ?_
              refine ih (pp + 1 + j) (qa_up u 22 0 25 (nI (r.length + 1))) H locs (a :: r) ls (by omega) (by omega) hC ⟨by show r.length + 1 ≤ 6; omega, ?_, ?_, ?_, ?_⟩ (lv_sub hl [0, 6, 7, 8, 9] rfl)
              · exact qa_up_s
              · rw [qa_up_kk (by decide)]; exact i3.2
              · intro c b8 f h1 h2; rw [qa_up_x (fun q9 => h1 ⟨q9.1, q9.2.2⟩)]; exact i4 c b8 f h1 h2
              · rw [i6s]; exact (qm_ex_8 (stk := (b :: a :: r)) (k := j) hz eP (show qm_rf (nI 8) (r.length + 2) b = 0 from qm_rf_ok ns (fun q9 => absurd q9 (by decide)) (fun q9 => absurd q9 (by decide))) (by show (if b = 0 then qm_ix (v 38 0 (12 * t + pp)) else 0) = j; rw [if_pos h194, eX, qm_ix_n (by omega)])).symm
        · have eo : u 37 0 (12 * t + pp) = nI 9 := q37.trans eP
          rw [eP] at hok
          rcases stk with _ | ⟨b, _ | ⟨a, r⟩⟩
          · have j2 : u 22 0 25 = nI 0 := i2
            refine lv_iload hx hb d_MD_play_8 (lv_at hl 0 rfl) ?_
            refine lv_aload_n hx hb d_MD_play_10 rfl (lv_at hl 1 rfl) ?_
            refine qa_get (k := 22) (i := 0) (f := 21) (val := .ref (qa_a y 39 0)) E hC Nat.one_pos rfl rfl (by decide) f_MD_58 rfl rfl d_MD_play_11 ?_
            refine lv_iload_n hx hb d_MD_play_14 rfl (lv_at hl 2 rfl) ?_
            refine qa_ild (k := 39) (i := 0) (j := t) E hC Nat.one_pos rfl rfl rfl ht d_MD_play_15 ?_
            refine lv_icmp_ge hx hb d_MD_play_16 rfl (fun h9 => absurd h9 (by rw [hq]; exact nI_ge hz (by omega))) (fun _ => ?_)
            refine lv_aload_n hx hb d_MD_play_19 rfl (lv_at hl 1 rfl) ?_
            refine qa_get (k := 22) (i := 0) (f := 19) (val := .ref (qa_a y 37 0)) E hC Nat.one_pos rfl rfl (by decide) f_MD_52 rfl rfl d_MD_play_20 ?_
            refine lv_bipush (v := 12) hx hb d_MD_play_23 (by decide) ?_
            refine lv_iload_n hx hb d_MD_play_25 rfl (lv_at hl 2 rfl) ?_
            refine lv_imul hx hb d_MD_play_26 ?_
            refine lv_iload hx hb d_MD_play_27 (lv_at hl 0 rfl) ?_
            refine lv_iadd hx hb d_MD_play_29 ?_
            refine qa_ild (k := 37) (i := 0) (j := ((12 * t) + pp)) E hC Nat.one_pos rfl rfl (qn_add (qn_mul rfl rfl) rfl) (show (12 * t) + pp < 48 by omega) d_MD_play_30 ?_
            rw [eo]
            refine lv_istore hx hb d_MD_play_31 hl (by decide) rfl (fun ls hl => ?_)
            have hl : lv_has ls 11 [(5, .int (nI 9)), (4, .int (nI pp)), (0, .ref (qa_a y 22 0)), (1, .int (nI t)), (2, .int (nI IB)), (3, .int (nI WB))] := hl
            refine lv_aload_n hx hb d_MD_play_33 rfl (lv_at hl 2 rfl) ?_
            refine qa_get (k := 22) (i := 0) (f := 20) (val := .ref (qa_a y 38 0)) E hC Nat.one_pos rfl rfl (by decide) f_MD_55 rfl rfl d_MD_play_34 ?_
            refine lv_bipush (v := 12) hx hb d_MD_play_37 (by decide) ?_
            refine lv_iload_n hx hb d_MD_play_39 rfl (lv_at hl 3 rfl) ?_
            refine lv_imul hx hb d_MD_play_40 ?_
            refine lv_iload hx hb d_MD_play_41 (lv_at hl 1 rfl) ?_
            refine lv_iadd hx hb d_MD_play_43 ?_
            refine qa_ild (k := 38) (i := 0) (j := ((12 * t) + pp)) E hC Nat.one_pos rfl rfl (qn_add (qn_mul rfl rfl) rfl) (show (12 * t) + pp < 48 by omega) d_MD_play_44 ?_
            refine lv_istore hx hb d_MD_play_45 hl (by decide) rfl (fun ls hl => ?_)
            have hl : lv_has ls 11 [(6, .int (u 38 0 ((12 * t) + pp))), (5, .int (nI 9)), (4, .int (nI pp)), (0, .ref (qa_a y 22 0)), (1, .int (nI t)), (2, .int (nI IB)), (3, .int (nI WB))] := hl
            refine lv_iinc (v := nI (pp + 1)) hx hb d_MD_play_47 hl (k := 2) rfl (nI_1 pp) (by decide) rfl (fun ls hl => ?_)
            have hl : lv_has ls 11 [(4, .int (nI (pp + 1))), (6, .int (u 38 0 ((12 * t) + pp))), (5, .int (nI 9)), (0, .ref (qa_a y 22 0)), (1, .int (nI t)), (2, .int (nI IB)), (3, .int (nI WB))] := hl
            refine lv_iload hx hb d_MD_play_50 (lv_at hl 2 rfl) ?_
            refine lv_iconst (v := 3) hx hb d_MD_play_52 (by decide) ?_
            refine lv_icmp_ge hx hb d_MD_play_53 rfl (fun _ => ?_) (fun h9 => absurd (by decide) h9)
            refine lv_iload hx hb d_MD_play_60 (lv_at hl 2 rfl) ?_
            refine lv_bipush (v := 8) hx hb d_MD_play_62 (by decide) ?_
            refine lv_icmp_ge hx hb d_MD_play_64 rfl (fun _ => ?_) (fun h9 => absurd (by decide) h9)
            refine lv_iconst (v := 1) hx hb d_MD_play_71 (by decide) ?_
            refine lv_istore hx hb d_MD_play_72 hl (by decide) rfl (fun ls hl => ?_)
            have hl : lv_has ls 11 [(7, .int 1), (4, .int (nI (pp + 1))), (6, .int (u 38 0 ((12 * t) + pp))), (5, .int (nI 9)), (0, .ref (qa_a y 22 0)), (1, .int (nI t)), (2, .int (nI IB)), (3, .int (nI WB))] := hl
            refine lv_aload_n hx hb d_MD_play_74 rfl (lv_at hl 4 rfl) ?_
            refine qa_get (k := 22) (i := 0) (f := 25) (val := .int (u 22 0 25)) E hC Nat.one_pos rfl rfl (by decide) f_MD_129 rfl rfl d_MD_play_75 ?_
            refine lv_iload hx hb d_MD_play_78 (lv_at hl 0 rfl) ?_
            refine lv_icmp_ge hx hb d_MD_play_80 rfl (fun h9 => absurd h9 (by rw [j2]; decide)) (fun _ => ?_)
            refine lv_ldc (v := -1000000001) hx hb hown (hts _ k_MD_132) d_MD_play_83 ?_
            exact qa_mret E hC hr hlocks ⟨by rw [i6s]; exact (qm_ex_r (stk := []) hz eP (show qm_rf (nI 9) 0 0 = -1000000001 from qm_rf_s (by decide)) (by decide)).symm, i4⟩ d_MD_play_85
          · have j2 : u 22 0 25 = nI 1 := i2
            have m1 : u 22 0 25 - 1 = nI 0 := by rw [j2]; exact nI_pred _
            have eb : u 42 0 0 = b := i3.1
            have ns : ¬ nI 1 < qm_nee (nI 9) := by decide
            refine lv_iload hx hb d_MD_play_8 (lv_at hl 0 rfl) ?_
            refine lv_aload_n hx hb d_MD_play_10 rfl (lv_at hl 1 rfl) ?_
            refine qa_get (k := 22) (i := 0) (f := 21) (val := .ref (qa_a y 39 0)) E hC Nat.one_pos rfl rfl (by decide) f_MD_58 rfl rfl d_MD_play_11 ?_
            refine lv_iload_n hx hb d_MD_play_14 rfl (lv_at hl 2 rfl) ?_
            refine qa_ild (k := 39) (i := 0) (j := t) E hC Nat.one_pos rfl rfl rfl ht d_MD_play_15 ?_
            refine lv_icmp_ge hx hb d_MD_play_16 rfl (fun h9 => absurd h9 (by rw [hq]; exact nI_ge hz (by omega))) (fun _ => ?_)
            refine lv_aload_n hx hb d_MD_play_19 rfl (lv_at hl 1 rfl) ?_
            refine qa_get (k := 22) (i := 0) (f := 19) (val := .ref (qa_a y 37 0)) E hC Nat.one_pos rfl rfl (by decide) f_MD_52 rfl rfl d_MD_play_20 ?_
            refine lv_bipush (v := 12) hx hb d_MD_play_23 (by decide) ?_
            refine lv_iload_n hx hb d_MD_play_25 rfl (lv_at hl 2 rfl) ?_
            refine lv_imul hx hb d_MD_play_26 ?_
            refine lv_iload hx hb d_MD_play_27 (lv_at hl 0 rfl) ?_
            refine lv_iadd hx hb d_MD_play_29 ?_
            refine qa_ild (k := 37) (i := 0) (j := ((12 * t) + pp)) E hC Nat.one_pos rfl rfl (qn_add (qn_mul rfl rfl) rfl) (show (12 * t) + pp < 48 by omega) d_MD_play_30 ?_
            rw [eo]
            refine lv_istore hx hb d_MD_play_31 hl (by decide) rfl (fun ls hl => ?_)
            have hl : lv_has ls 11 [(5, .int (nI 9)), (4, .int (nI pp)), (0, .ref (qa_a y 22 0)), (1, .int (nI t)), (2, .int (nI IB)), (3, .int (nI WB))] := hl
            refine lv_aload_n hx hb d_MD_play_33 rfl (lv_at hl 2 rfl) ?_
            refine qa_get (k := 22) (i := 0) (f := 20) (val := .ref (qa_a y 38 0)) E hC Nat.one_pos rfl rfl (by decide) f_MD_55 rfl rfl d_MD_play_34 ?_
            refine lv_bipush (v := 12) hx hb d_MD_play_37 (by decide) ?_
            refine lv_iload_n hx hb d_MD_play_39 rfl (lv_at hl 3 rfl) ?_
            refine lv_imul hx hb d_MD_play_40 ?_
            refine lv_iload hx hb d_MD_play_41 (lv_at hl 1 rfl) ?_
            refine lv_iadd hx hb d_MD_play_43 ?_
            refine qa_ild (k := 38) (i := 0) (j := ((12 * t) + pp)) E hC Nat.one_pos rfl rfl (qn_add (qn_mul rfl rfl) rfl) (show (12 * t) + pp < 48 by omega) d_MD_play_44 ?_
            refine lv_istore hx hb d_MD_play_45 hl (by decide) rfl (fun ls hl => ?_)
            have hl : lv_has ls 11 [(6, .int (u 38 0 ((12 * t) + pp))), (5, .int (nI 9)), (4, .int (nI pp)), (0, .ref (qa_a y 22 0)), (1, .int (nI t)), (2, .int (nI IB)), (3, .int (nI WB))] := hl
            refine lv_iinc (v := nI (pp + 1)) hx hb d_MD_play_47 hl (k := 2) rfl (nI_1 pp) (by decide) rfl (fun ls hl => ?_)
            have hl : lv_has ls 11 [(4, .int (nI (pp + 1))), (6, .int (u 38 0 ((12 * t) + pp))), (5, .int (nI 9)), (0, .ref (qa_a y 22 0)), (1, .int (nI t)), (2, .int (nI IB)), (3, .int (nI WB))] := hl
            refine lv_iload hx hb d_MD_play_50 (lv_at hl 2 rfl) ?_
            refine lv_iconst (v := 3) hx hb d_MD_play_52 (by decide) ?_
            refine lv_icmp_ge hx hb d_MD_play_53 rfl (fun _ => ?_) (fun h9 => absurd (by decide) h9)
            refine lv_iload hx hb d_MD_play_60 (lv_at hl 2 rfl) ?_
            refine lv_bipush (v := 8) hx hb d_MD_play_62 (by decide) ?_
            refine lv_icmp_ge hx hb d_MD_play_64 rfl (fun _ => ?_) (fun h9 => absurd (by decide) h9)
            refine lv_iconst (v := 1) hx hb d_MD_play_71 (by decide) ?_
            refine lv_istore hx hb d_MD_play_72 hl (by decide) rfl (fun ls hl => ?_)
            have hl : lv_has ls 11 [(7, .int 1), (4, .int (nI (pp + 1))), (6, .int (u 38 0 ((12 * t) + pp))), (5, .int (nI 9)), (0, .ref (qa_a y 22 0)), (1, .int (nI t)), (2, .int (nI IB)), (3, .int (nI WB))] := hl
            refine lv_aload_n hx hb d_MD_play_74 rfl (lv_at hl 4 rfl) ?_
            refine qa_get (k := 22) (i := 0) (f := 25) (val := .int (u 22 0 25)) E hC Nat.one_pos rfl rfl (by decide) f_MD_129 rfl rfl d_MD_play_75 ?_
            refine lv_iload hx hb d_MD_play_78 (lv_at hl 0 rfl) ?_
            refine lv_icmp_ge hx hb d_MD_play_80 rfl (fun _ => ?_) (fun h9 => absurd (by rw [j2]; decide) h9)
            refine lv_aload_n hx hb d_MD_play_86 rfl (lv_at hl 4 rfl) ?_
            refine qa_get (k := 22) (i := 0) (f := 25) (val := .int (u 22 0 25)) E hC Nat.one_pos rfl rfl (by decide) f_MD_129 rfl rfl d_MD_play_87 ?_
            refine lv_if_le hx hb d_MD_play_90 rfl (fun h9 => absurd h9 (by rw [j2]; exact nI_nle (by omega) (by omega))) (fun _ => ?_)
            refine lv_aload_n hx hb d_MD_play_93 rfl (lv_at hl 4 rfl) ?_
            refine qa_get (k := 22) (i := 0) (f := 24) (val := .ref (qa_a y 42 0)) E hC Nat.one_pos rfl rfl (by decide) f_MD_67 rfl rfl d_MD_play_94 ?_
            refine lv_aload_n hx hb d_MD_play_97 rfl (lv_at hl 4 rfl) ?_
            refine qa_get (k := 22) (i := 0) (f := 25) (val := .int (u 22 0 25)) E hC Nat.one_pos rfl rfl (by decide) f_MD_129 rfl rfl d_MD_play_98 ?_
            refine lv_iconst (v := 1) hx hb d_MD_play_101 (by decide) ?_
            refine lv_isub hx hb d_MD_play_102 ?_
            refine qa_ild (k := 42) (i := 0) (j := 0) E hC Nat.one_pos rfl rfl m1 (show 0 < 6 by decide) d_MD_play_103 ?_
            rw [eb]
            refine lv_goto hx hb d_MD_play_104 rfl ?_
            refine lv_istore hx hb d_MD_play_108 hl (by decide) rfl (fun ls hl => ?_)
            have hl : lv_has ls 11 [(8, .int b), (7, .int 1), (4, .int (nI (pp + 1))), (6, .int (u 38 0 ((12 * t) + pp))), (5, .int (nI 9)), (0, .ref (qa_a y 22 0)), (1, .int (nI t)), (2, .int (nI IB)), (3, .int (nI WB))] := hl
            refine lv_aload_n hx hb d_MD_play_110 rfl (lv_at hl 5 rfl) ?_
            refine qa_get (k := 22) (i := 0) (f := 25) (val := .int (u 22 0 25)) E hC Nat.one_pos rfl rfl (by decide) f_MD_129 rfl rfl d_MD_play_111 ?_
            refine lv_iconst (v := 1) hx hb d_MD_play_114 (by decide) ?_
            refine lv_icmp_le hx hb d_MD_play_115 rfl (fun _ => ?_) (fun h9 => absurd (by rw [j2]; decide) h9)
            refine lv_iconst (v := 0) hx hb d_MD_play_132 (by decide) ?_
            refine lv_istore hx hb d_MD_play_133 hl (by decide) rfl (fun ls hl => ?_)
            have hl : lv_has ls 11 [(9, .int 0), (8, .int b), (7, .int 1), (4, .int (nI (pp + 1))), (6, .int (u 38 0 ((12 * t) + pp))), (5, .int (nI 9)), (0, .ref (qa_a y 22 0)), (1, .int (nI t)), (2, .int (nI IB)), (3, .int (nI WB))] := hl
            refine lv_iload hx hb d_MD_play_135 (lv_at hl 5 rfl) ?_
            refine lv_bipush (v := 6) hx hb d_MD_play_137 (by decide) ?_
            refine lv_icmp_ne hx hb d_MD_play_139 rfl (fun _ => ?_) (fun h9 => absurd h9 (by decide))
            refine lv_iload hx hb d_MD_play_150 (lv_at hl 5 rfl) ?_
            refine lv_iconst (v := 3) hx hb d_MD_play_152 (by decide) ?_
            refine lv_icmp_lt hx hb d_MD_play_153 rfl (fun h9 => absurd h9 (by decide)) (fun _ => ?_)
            refine lv_iload hx hb d_MD_play_156 (lv_at hl 5 rfl) ?_
            refine lv_bipush (v := 9) hx hb d_MD_play_158 (by decide) ?_
            refine lv_icmp_ne hx hb d_MD_play_160 rfl (fun h9 => absurd (by decide) h9) (fun _ => ?_)
            refine lv_aload_n hx hb d_MD_play_163 rfl (lv_at hl 6 rfl) ?_
            refine qa_get (k := 22) (i := 0) (f := 25) (val := .int (u 22 0 25)) E hC Nat.one_pos rfl rfl (by decide) f_MD_129 rfl rfl d_MD_play_164 ?_
            refine lv_bipush (v := 6) hx hb d_MD_play_167 (by decide) ?_
            refine lv_icmp_ne hx hb d_MD_play_169 rfl (fun _ => ?_) (fun h9 => absurd h9 (by rw [j2]; decide))
            refine lv_iload hx hb d_MD_play_175 (lv_at hl 5 rfl) ?_
            refine lv_bipush (v := 8) hx hb d_MD_play_177 (by decide) ?_
            refine lv_icmp_ne hx hb d_MD_play_179 rfl (fun _ => ?_) (fun h9 => absurd h9 (by decide))
            refine lv_iload hx hb d_MD_play_212 (lv_at hl 2 rfl) ?_
            refine lv_iconst (v := 2) hx hb d_MD_play_214 (by decide) ?_
            refine lv_icmp_ne hx hb d_MD_play_215 rfl (fun _ => ?_) (fun h9 => absurd h9 (by decide))
            refine lv_iload hx hb d_MD_play_248 (lv_at hl 5 rfl) ?_
            refine lv_if_ne hx hb d_MD_play_250 rfl (fun _ => ?_) (fun h9 => absurd h9 (by decide))
            refine lv_iload hx hb d_MD_play_258 (lv_at hl 5 rfl) ?_
            refine lv_iconst (v := 1) hx hb d_MD_play_260 (by decide) ?_
            refine lv_icmp_ne hx hb d_MD_play_261 rfl (fun _ => ?_) (fun h9 => absurd h9 (by decide))
            refine lv_iload hx hb d_MD_play_276 (lv_at hl 5 rfl) ?_
            refine lv_iconst (v := 2) hx hb d_MD_play_278 (by decide) ?_
            refine lv_icmp_ne hx hb d_MD_play_279 rfl (fun _ => ?_) (fun h9 => absurd h9 (by decide))
            refine lv_iload hx hb d_MD_play_294 (lv_at hl 1 rfl) ?_
            refine lv_istore hx hb d_MD_play_296 hl (by decide) rfl (fun ls hl => ?_)
            have hl : lv_has ls 11 [(10, .int b), (9, .int 0), (8, .int b), (7, .int 1), (4, .int (nI (pp + 1))), (6, .int (u 38 0 ((12 * t) + pp))), (5, .int (nI 9)), (0, .ref (qa_a y 22 0)), (1, .int (nI t)), (2, .int (nI IB)), (3, .int (nI WB))] := hl
            refine lv_aload_n hx hb d_MD_play_298 rfl (lv_at hl 7 rfl) ?_
            refine lv_iload hx hb d_MD_play_299 (lv_at hl 0 rfl) ?_
            refine qa_mVv (k := 22) (i := 0) (As := [.int b]) E hC (c_MD_push l y u 1 b j2 (by decide)) Nat.one_pos rfl rfl k_MD_138 (qa_fitR (by decide) (by decide)) rfl hl.1 rfl (Nat.le_of_ble_eq_true rfl) d_MD_play_301 (fun u15 H locs hp15 hC => ?_)
            refine lv_goto hx hb d_MD_play_304 rfl ?_
            refine ih (pp + 1) u15 H locs ((b) :: [b]) ls (by omega) (by omega) hC ⟨?_, ?_, ⟨?_, ?_⟩, ?_, ?_⟩ (lv_sub hl [4, 7, 8, 9, 10] rfl)
            · show 1 + 1 ≤ 6; omega
            · rw [hp15]; exact qa_up_s
            · rw [hp15, qa_up_kk (by decide)]; exact qa_up_s
            · refine qm_st_n i3 (fun q hq => ?_)
              have hq : q < 1 := hq
              rw [hp15, qa_up_kk (by decide), qa_up_f (by omega)]
            · intro c b8 f h1 h2; rw [hp15, qa_up_x (fun q9 => h1 ⟨q9.1, q9.2.2⟩), qa_up_k h2]; exact i4 c b8 f h1 h2
            · rw [i6s]; exact (qm_ex_f (stk := [b]) hz eP (show qm_rf (nI 9) 1 b = 0 from qm_rf_ok ns (fun q9 => absurd q9 (by decide)) (fun _ => show 1 < 6 by decide)) (by decide) (by decide) qm_fe_9).symm
          · have j2 : u 22 0 25 = nI (r.length + 2) := i2
            have j1 : r.length + 2 ≤ 6 := i1
            have m1 : u 22 0 25 - 1 = nI (r.length + 1) := by rw [j2]; exact nI_pred _
            have eb : u 42 0 (r.length + 1) = b := i3.1
            have m2 : u 22 0 25 - 2 = nI r.length := by rw [j2]; exact pk_sub (a := r.length + 2) (b := 2) (by omega)
            have ea : u 42 0 r.length = a := i3.2.1
            have ns : ¬ nI (r.length + 2) < qm_nee (nI 9) := by rw [show qm_nee (nI 9) = nI 1 from by decide]; exact nI_nlt (by omega) (by omega)
            refine lv_iload hx hb d_MD_play_8 (lv_at hl 0 rfl) ?_
            refine lv_aload_n hx hb d_MD_play_10 rfl (lv_at hl 1 rfl) ?_
            refine qa_get (k := 22) (i := 0) (f := 21) (val := .ref (qa_a y 39 0)) E hC Nat.one_pos rfl rfl (by decide) f_MD_58 rfl rfl d_MD_play_11 ?_
            refine lv_iload_n hx hb d_MD_play_14 rfl (lv_at hl 2 rfl) ?_
            refine qa_ild (k := 39) (i := 0) (j := t) E hC Nat.one_pos rfl rfl rfl ht d_MD_play_15 ?_
            refine lv_icmp_ge hx hb d_MD_play_16 rfl (fun h9 => absurd h9 (by rw [hq]; exact nI_ge hz (by omega))) (fun _ => ?_)
            refine lv_aload_n hx hb d_MD_play_19 rfl (lv_at hl 1 rfl) ?_
            refine qa_get (k := 22) (i := 0) (f := 19) (val := .ref (qa_a y 37 0)) E hC Nat.one_pos rfl rfl (by decide) f_MD_52 rfl rfl d_MD_play_20 ?_
            refine lv_bipush (v := 12) hx hb d_MD_play_23 (by decide) ?_
            refine lv_iload_n hx hb d_MD_play_25 rfl (lv_at hl 2 rfl) ?_
            refine lv_imul hx hb d_MD_play_26 ?_
            refine lv_iload hx hb d_MD_play_27 (lv_at hl 0 rfl) ?_
            refine lv_iadd hx hb d_MD_play_29 ?_
            refine qa_ild (k := 37) (i := 0) (j := ((12 * t) + pp)) E hC Nat.one_pos rfl rfl (qn_add (qn_mul rfl rfl) rfl) (show (12 * t) + pp < 48 by omega) d_MD_play_30 ?_
            rw [eo]
            refine lv_istore hx hb d_MD_play_31 hl (by decide) rfl (fun ls hl => ?_)
            have hl : lv_has ls 11 [(5, .int (nI 9)), (4, .int (nI pp)), (0, .ref (qa_a y 22 0)), (1, .int (nI t)), (2, .int (nI IB)), (3, .int (nI WB))] := hl
            refine lv_aload_n hx hb d_MD_play_33 rfl (lv_at hl 2 rfl) ?_
            refine qa_get (k := 22) (i := 0) (f := 20) (val := .ref (qa_a y 38 0)) E hC Nat.one_pos rfl rfl (by decide) f_MD_55 rfl rfl d_MD_play_34 ?_
            refine lv_bipush (v := 12) hx hb d_MD_play_37 (by decide) ?_
            refine lv_iload_n hx hb d_MD_play_39 rfl (lv_at hl 3 rfl) ?_
            refine lv_imul hx hb d_MD_play_40 ?_
            refine lv_iload hx hb d_MD_play_41 (lv_at hl 1 rfl) ?_
            refine lv_iadd hx hb d_MD_play_43 ?_
            refine qa_ild (k := 38) (i := 0) (j := ((12 * t) + pp)) E hC Nat.one_pos rfl rfl (qn_add (qn_mul rfl rfl) rfl) (show (12 * t) + pp < 48 by omega) d_MD_play_44 ?_
            refine lv_istore hx hb d_MD_play_45 hl (by decide) rfl (fun ls hl => ?_)
            have hl : lv_has ls 11 [(6, .int (u 38 0 ((12 * t) + pp))), (5, .int (nI 9)), (4, .int (nI pp)), (0, .ref (qa_a y 22 0)), (1, .int (nI t)), (2, .int (nI IB)), (3, .int (nI WB))] := hl
            refine lv_iinc (v := nI (pp + 1)) hx hb d_MD_play_47 hl (k := 2) rfl (nI_1 pp) (by decide) rfl (fun ls hl => ?_)
            have hl : lv_has ls 11 [(4, .int (nI (pp + 1))), (6, .int (u 38 0 ((12 * t) + pp))), (5, .int (nI 9)), (0, .ref (qa_a y 22 0)), (1, .int (nI t)), (2, .int (nI IB)), (3, .int (nI WB))] := hl
            refine lv_iload hx hb d_MD_play_50 (lv_at hl 2 rfl) ?_
            refine lv_iconst (v := 3) hx hb d_MD_play_52 (by decide) ?_
            refine lv_icmp_ge hx hb d_MD_play_53 rfl (fun _ => ?_) (fun h9 => absurd (by decide) h9)
            refine lv_iload hx hb d_MD_play_60 (lv_at hl 2 rfl) ?_
            refine lv_bipush (v := 8) hx hb d_MD_play_62 (by decide) ?_
            refine lv_icmp_ge hx hb d_MD_play_64 rfl (fun _ => ?_) (fun h9 => absurd (by decide) h9)
            refine lv_iconst (v := 1) hx hb d_MD_play_71 (by decide) ?_
            refine lv_istore hx hb d_MD_play_72 hl (by decide) rfl (fun ls hl => ?_)
            have hl : lv_has ls 11 [(7, .int 1), (4, .int (nI (pp + 1))), (6, .int (u 38 0 ((12 * t) + pp))), (5, .int (nI 9)), (0, .ref (qa_a y 22 0)), (1, .int (nI t)), (2, .int (nI IB)), (3, .int (nI WB))] := hl
            refine lv_aload_n hx hb d_MD_play_74 rfl (lv_at hl 4 rfl) ?_
            refine qa_get (k := 22) (i := 0) (f := 25) (val := .int (u 22 0 25)) E hC Nat.one_pos rfl rfl (by decide) f_MD_129 rfl rfl d_MD_play_75 ?_
            refine lv_iload hx hb d_MD_play_78 (lv_at hl 0 rfl) ?_
            refine lv_icmp_ge hx hb d_MD_play_80 rfl (fun _ => ?_) (fun h9 => absurd (by rw [j2]; exact nI_le (a := 1) (by omega) (by omega)) h9)
            refine lv_aload_n hx hb d_MD_play_86 rfl (lv_at hl 4 rfl) ?_
            refine qa_get (k := 22) (i := 0) (f := 25) (val := .int (u 22 0 25)) E hC Nat.one_pos rfl rfl (by decide) f_MD_129 rfl rfl d_MD_play_87 ?_
            refine lv_if_le hx hb d_MD_play_90 rfl (fun h9 => absurd h9 (by rw [j2]; exact nI_nle (by omega) (by omega))) (fun _ => ?_)
            refine lv_aload_n hx hb d_MD_play_93 rfl (lv_at hl 4 rfl) ?_
            refine qa_get (k := 22) (i := 0) (f := 24) (val := .ref (qa_a y 42 0)) E hC Nat.one_pos rfl rfl (by decide) f_MD_67 rfl rfl d_MD_play_94 ?_
            refine lv_aload_n hx hb d_MD_play_97 rfl (lv_at hl 4 rfl) ?_
            refine qa_get (k := 22) (i := 0) (f := 25) (val := .int (u 22 0 25)) E hC Nat.one_pos rfl rfl (by decide) f_MD_129 rfl rfl d_MD_play_98 ?_
            refine lv_iconst (v := 1) hx hb d_MD_play_101 (by decide) ?_
            refine lv_isub hx hb d_MD_play_102 ?_
            refine qa_ild (k := 42) (i := 0) (j := (r.length + 1)) E hC Nat.one_pos rfl rfl m1 (show r.length + 1 < 6 by omega) d_MD_play_103 ?_
            rw [eb]
            refine lv_goto hx hb d_MD_play_104 rfl ?_
            refine lv_istore hx hb d_MD_play_108 hl (by decide) rfl (fun ls hl => ?_)
            have hl : lv_has ls 11 [(8, .int b), (7, .int 1), (4, .int (nI (pp + 1))), (6, .int (u 38 0 ((12 * t) + pp))), (5, .int (nI 9)), (0, .ref (qa_a y 22 0)), (1, .int (nI t)), (2, .int (nI IB)), (3, .int (nI WB))] := hl
            refine lv_aload_n hx hb d_MD_play_110 rfl (lv_at hl 5 rfl) ?_
            refine qa_get (k := 22) (i := 0) (f := 25) (val := .int (u 22 0 25)) E hC Nat.one_pos rfl rfl (by decide) f_MD_129 rfl rfl d_MD_play_111 ?_
            refine lv_iconst (v := 1) hx hb d_MD_play_114 (by decide) ?_
            refine lv_icmp_le hx hb d_MD_play_115 rfl (fun h9 => absurd h9 (by rw [j2]; exact nI_ge (b := (r.length + 2)) (a := 1) (by omega) (by omega))) (fun _ => ?_)
            refine lv_aload_n hx hb d_MD_play_118 rfl (lv_at hl 5 rfl) ?_
            refine qa_get (k := 22) (i := 0) (f := 24) (val := .ref (qa_a y 42 0)) E hC Nat.one_pos rfl rfl (by decide) f_MD_67 rfl rfl d_MD_play_119 ?_
            refine lv_aload_n hx hb d_MD_play_122 rfl (lv_at hl 5 rfl) ?_
            refine qa_get (k := 22) (i := 0) (f := 25) (val := .int (u 22 0 25)) E hC Nat.one_pos rfl rfl (by decide) f_MD_129 rfl rfl d_MD_play_123 ?_
            refine lv_iconst (v := 2) hx hb d_MD_play_126 (by decide) ?_
            refine lv_isub hx hb d_MD_play_127 ?_
            refine qa_ild (k := 42) (i := 0) (j := r.length) E hC Nat.one_pos rfl rfl m2 (show r.length < 6 by omega) d_MD_play_128 ?_
            rw [ea]
            refine lv_goto hx hb d_MD_play_129 rfl ?_
            refine lv_istore hx hb d_MD_play_133 hl (by decide) rfl (fun ls hl => ?_)
            have hl : lv_has ls 11 [(9, .int a), (8, .int b), (7, .int 1), (4, .int (nI (pp + 1))), (6, .int (u 38 0 ((12 * t) + pp))), (5, .int (nI 9)), (0, .ref (qa_a y 22 0)), (1, .int (nI t)), (2, .int (nI IB)), (3, .int (nI WB))] := hl
            refine lv_iload hx hb d_MD_play_135 (lv_at hl 5 rfl) ?_
            refine lv_bipush (v := 6) hx hb d_MD_play_137 (by decide) ?_
            refine lv_icmp_ne hx hb d_MD_play_139 rfl (fun _ => ?_) (fun h9 => absurd h9 (by decide))
            refine lv_iload hx hb d_MD_play_150 (lv_at hl 5 rfl) ?_
            refine lv_iconst (v := 3) hx hb d_MD_play_152 (by decide) ?_
            refine lv_icmp_lt hx hb d_MD_play_153 rfl (fun h9 => absurd h9 (by decide)) (fun _ => ?_)
            refine lv_iload hx hb d_MD_play_156 (lv_at hl 5 rfl) ?_
            refine lv_bipush (v := 9) hx hb d_MD_play_158 (by decide) ?_
            refine lv_icmp_ne hx hb d_MD_play_160 rfl (fun h9 => absurd (by decide) h9) (fun _ => ?_)
            refine lv_aload_n hx hb d_MD_play_163 rfl (lv_at hl 6 rfl) ?_
            refine qa_get (k := 22) (i := 0) (f := 25) (val := .int (u 22 0 25)) E hC Nat.one_pos rfl rfl (by decide) f_MD_129 rfl rfl d_MD_play_164 ?_
            refine lv_bipush (v := 6) hx hb d_MD_play_167 (by decide) ?_
            refine lv_icmp_ne hx hb d_MD_play_169 rfl (fun h169 => ?_) (fun h169 => ?_)
            · refine lv_iload hx hb d_MD_play_175 (lv_at hl 5 rfl) ?_
              refine lv_bipush (v := 8) hx hb d_MD_play_177 (by decide) ?_
              refine lv_icmp_ne hx hb d_MD_play_179 rfl (fun _ => ?_) (fun h9 => absurd h9 (by decide))
              refine lv_iload hx hb d_MD_play_212 (lv_at hl 2 rfl) ?_
              refine lv_iconst (v := 2) hx hb d_MD_play_214 (by decide) ?_
              refine lv_icmp_ne hx hb d_MD_play_215 rfl (fun _ => ?_) (fun h9 => absurd h9 (by decide))
              refine lv_iload hx hb d_MD_play_248 (lv_at hl 5 rfl) ?_
              refine lv_if_ne hx hb d_MD_play_250 rfl (fun _ => ?_) (fun h9 => absurd h9 (by decide))
              refine lv_iload hx hb d_MD_play_258 (lv_at hl 5 rfl) ?_
              refine lv_iconst (v := 1) hx hb d_MD_play_260 (by decide) ?_
              refine lv_icmp_ne hx hb d_MD_play_261 rfl (fun _ => ?_) (fun h9 => absurd h9 (by decide))
              refine lv_iload hx hb d_MD_play_276 (lv_at hl 5 rfl) ?_
              refine lv_iconst (v := 2) hx hb d_MD_play_278 (by decide) ?_
              refine lv_icmp_ne hx hb d_MD_play_279 rfl (fun _ => ?_) (fun h9 => absurd h9 (by decide))
              refine lv_iload hx hb d_MD_play_294 (lv_at hl 1 rfl) ?_
              refine lv_istore hx hb d_MD_play_296 hl (by decide) rfl (fun ls hl => ?_)
              have hl : lv_has ls 11 [(10, .int b), (9, .int a), (8, .int b), (7, .int 1), (4, .int (nI (pp + 1))), (6, .int (u 38 0 ((12 * t) + pp))), (5, .int (nI 9)), (0, .ref (qa_a y 22 0)), (1, .int (nI t)), (2, .int (nI IB)), (3, .int (nI WB))] := hl
              refine lv_aload_n hx hb d_MD_play_298 rfl (lv_at hl 7 rfl) ?_
              refine lv_iload hx hb d_MD_play_299 (lv_at hl 0 rfl) ?_
              have d6 : r.length + 2 < 6 := by
                have z9 : ¬ nI (r.length + 2) = nI 6 := by rw [← j2]; exact h169
                rw [nI_eq (by omega) (by omega)] at z9
                omega
              refine qa_mVv (k := 22) (i := 0) (As := [.int b]) E hC (c_MD_push l y u (r.length + 2) b j2 d6) Nat.one_pos rfl rfl k_MD_138 (qa_fitR (by decide) (by decide)) rfl hl.1 rfl (Nat.le_of_ble_eq_true rfl) d_MD_play_301 (fun u16 H locs hp16 hC => ?_)
              refine lv_goto hx hb d_MD_play_304 rfl ?_
              refine ih (pp + 1) u16 H locs ((b) :: (b :: a :: r)) ls (by omega) (by omega) hC ⟨?_, ?_, ⟨?_, ?_⟩, ?_, ?_⟩ (lv_sub hl [4, 7, 8, 9, 10] rfl)
              · show (r.length + 2) + 1 ≤ 6; omega
              · rw [hp16]; exact qa_up_s
              · rw [hp16, qa_up_kk (by decide)]; exact qa_up_s
              · refine qm_st_n i3 (fun q hq => ?_)
                have hq : q < (r.length + 2) := hq
                rw [hp16, qa_up_kk (by decide), qa_up_f (by omega)]
              · intro c b8 f h1 h2; rw [hp16, qa_up_x (fun q9 => h1 ⟨q9.1, q9.2.2⟩), qa_up_k h2]; exact i4 c b8 f h1 h2
              · rw [i6s]; exact (qm_ex_f (stk := (b :: a :: r)) hz eP (show qm_rf (nI 9) (r.length + 2) b = 0 from qm_rf_ok ns (fun q9 => absurd q9 (by decide)) (fun _ => d6)) (by decide) (by decide) qm_fe_9).symm
            · refine lv_ldc (v := -1000000002) hx hb hown (hts _ k_MD_134) d_MD_play_172 ?_
              exact qa_mret E hC hr hlocks ⟨by rw [i6s]; exact (qm_ex_r (stk := (b :: a :: r)) hz eP (show qm_rf (nI 9) (r.length + 2) b = -1000000002 from qm_rf_dp ns (by decide) (by decide) (by rw [← j2]; exact h169)) (by decide)).symm, i4⟩ d_MD_play_174
      · exact fin pp u H locs stk ls (by omega) hp24 hC hI hl
  refine lv_aload_n hx hb d_MD_play_0 rfl (lv_at hl 0 rfl) ?_
  refine lv_iconst (v := 0) hx hb d_MD_play_1 (by decide) ?_
  refine qa_put (k := 22) (i := 0) (f := 25) E hC Nat.one_pos rfl rfl (by decide) f_MD_129 rfl rfl rfl rfl d_MD_play_2 (fun H locs hC => ?_)
  refine lv_iconst (v := 0) hx hb d_MD_play_5 (by decide) ?_
  refine lv_istore hx hb d_MD_play_6 hl (by decide) rfl (fun ls hl => ?_)
  have hl : lv_has ls 11 [(4, .int 0), (0, .ref (qa_a y 22 0)), (1, .int (nI t)), (2, .int (nI IB)), (3, .int (nI WB))] := hl
  exact loop L 0 (qa_up v 22 0 25 0) H locs [] ls (by omega) (by omega) hC ⟨by simp, qa_up_s, trivial, fun c b f h1 h2 => qa_up_x (fun q9 => h1 ⟨q9.1, q9.2.2⟩), by rw [Nat.sub_zero]⟩ (lv_sub hl [0, 1, 2, 3, 4] rfl)
