set_option maxHeartbeats 4000000 in
set_option maxRecDepth 100000 in
theorem c_RL_make0 (l : Launch) (y : qa_L) (v : qa_M) (i : Nat) (r : Nat) (P : Int32) (hi : i < qa_n y) (hrow : r * qa_n y + qa_n y ≤ qa_h y) : qa_Mi l y_RL_make b_RL_make 10 (some .int) 2 [.ref (qa_a y 8 0), .ref (qa_a y 2 i), .int (nI r), .int P, .int 0] y v (fun q u => q = v 9 0 (r * qa_n y + i) ∧ u = v) := by
  refine qa_ofMi (plainFor_of_name (by decide)) (Nat.le_of_ble_eq_true rfl) ?_
  intro p e s m below meth c ls E hr hlocks hC hl
  have E : qa_E p m c b_RL_make 10 s _ "VotedFrames$Relay" y := E
  have F := E.1
  have hx := F.1
  have hb := F.2.1
  have hown : s.vm.findClass "VotedFrames$Relay" = some m.cls := F.2.2.2.1
  have hts := F.2.2.2.2
  have hn4 : 4 ≤ qa_n y := E.2.1.2.2.1
  have hn7 : qa_n y ≤ 7 := E.2.1.2.2.2.1
  have hl : lv_has ls 10 [(0, .ref (qa_a y 8 0)), (1, .ref (qa_a y 2 i)), (2, .int (nI r)), (3, .int P), (4, .int 0)] := hl
  have hh31 := qa_h_lt E.2.1
  have hb0 : r * qa_n y + qa_n y ≤ qa_h y := hrow
  refine lv_aload_n hx hb d_RL_make_0 rfl (lv_at hl 0 rfl) ?_
  refine qa_get (k := 8) (i := 0) (f := 2) (val := .ref (qa_a y 9 0)) E hC Nat.one_pos rfl rfl (by decide) f_RL_17 rfl rfl d_RL_make_1 ?_
  refine lv_aload_n hx hb d_RL_make_4 rfl (lv_at hl 0 rfl) ?_
  refine lv_iload_n hx hb d_RL_make_5 rfl (lv_at hl 2 rfl) ?_
  refine lv_aload_n hx hb d_RL_make_6 rfl (lv_at hl 1 rfl) ?_
  refine qa_get (k := 2) (i := i) (f := 0) (val := .int (nI i)) E hC hi rfl rfl (by decide) f_RL_83 rfl rfl d_RL_make_7 ?_
  refine qa_pV (k := 8) (i := 0) (As := [.int (nI r), .int (nI i)]) E hC (c_RL_placeOf l y v (nI r) (nI i)) Nat.one_pos rfl rfl k_RL_74 (qa_fitR (by decide) (by decide)) rfl hl.1 rfl (Nat.le_of_ble_eq_true rfl) d_RL_make_10 ?_
  refine qa_ild (k := 9) (i := 0) (j := (r * qa_n y + i)) E hC Nat.one_pos rfl rfl (by rw [pk_mul, nI_add]) (show r * qa_n y + i < qa_h y by omega) d_RL_make_13 ?_
  refine lv_istore hx hb d_RL_make_14 hl (by decide) rfl (fun ls hl => ?_)
  have hl : lv_has ls 10 [(5, .int (v 9 0 (r * qa_n y + i))), (0, .ref (qa_a y 8 0)), (1, .ref (qa_a y 2 i)), (2, .int (nI r)), (3, .int P), (4, .int 0)] := hl
  refine lv_iload hx hb d_RL_make_16 (lv_at hl 5 rfl) ?_
  refine lv_if_gt hx hb d_RL_make_18 rfl (fun h9 => absurd h9 (by decide)) (fun _ => ?_)
  refine lv_iload hx hb d_RL_make_21 (lv_at hl 0 rfl) ?_
  exact qa_mret E hC hr hlocks ⟨rfl, rfl⟩ d_RL_make_23

set_option maxHeartbeats 4000000 in
set_option maxRecDepth 100000 in
theorem c_RL_make1 (l : Launch) (y : qa_L) (v : qa_M) (i : Nat) (r : Nat) (P : Int32) (hi : i < qa_n y) (hm : 1 < qa_m y + 1) (hrow : (r * qa_n y + qa_n y) * qa_n y + qa_n y ≤ qa_h y) : qa_Mi l y_RL_make b_RL_make 10 (some .int) 3 [.ref (qa_a y 8 0), .ref (qa_a y 2 i), .int (nI r), .int P, .int 1] y v (fun q u => q = qm_mk1 (qa_n y) (v 9 0) (v 2 i 11) P i r ∧ ∀ a b, ¬ (a = 11 ∧ b = 1) → u a b = v a b) := by
  refine qa_ofMi (plainFor_of_name (by decide)) (Nat.le_of_ble_eq_true rfl) ?_
  intro p e s m below meth c ls E hr hlocks hC hl
  have E : qa_E p m c b_RL_make 10 s _ "VotedFrames$Relay" y := E
  have F := E.1
  have hx := F.1
  have hb := F.2.1
  have hown : s.vm.findClass "VotedFrames$Relay" = some m.cls := F.2.2.2.1
  have hts := F.2.2.2.2
  have hn4 : 4 ≤ qa_n y := E.2.1.2.2.1
  have hn7 : qa_n y ≤ 7 := E.2.1.2.2.2.1
  have hl : lv_has ls 10 [(0, .ref (qa_a y 8 0)), (1, .ref (qa_a y 2 i)), (2, .int (nI r)), (3, .int P), (4, .int 1)] := hl
  have hh31 := qa_h_lt E.2.1
  have hb0 : r * qa_n y + qa_n y ≤ qa_h y := by rcases qm_n47 hn4 hn7 with e | e | e | e <;> rw [e] at hrow ⊢ <;> omega
  obtain ⟨G, hG⟩ : ∃ G : Nat → List Int32, G = qm_ls (fun j => qm_in (qm_rel (v 2 i 11) P i) (nI j)) (v 9 0 (r * qa_n y + i)) (fun j => v 9 0 ((r * qa_n y + 1 + j) * qa_n y + i)) := ⟨_, rfl⟩
  have gs : ∀ k, qm_in (qm_rel (v 2 i 11) P i) (nI k) = true → G (k + 1) = G k ++ [(fun j => v 9 0 ((r * qa_n y + 1 + j) * qa_n y + i)) k] := fun k h => by rw [hG]; exact qm_ls_t h
  have gn : ∀ k, qm_in (qm_rel (v 2 i 11) P i) (nI k) = false → G (k + 1) = G k := fun k h => by rw [hG]; exact qm_ls_f h
  have gi : qm_in (qm_rel (v 2 i 11) P i) (nI i) = false := by rw [qm_in_rel _ _ (by omega) (by omega)]; simp
  have gl : ∀ k, (G k).length ≤ if i < k then k else k + 1 := fun k => by rw [hG]; exact qm_ls_len gi k
  have gn1 : (G (qa_n y)).length ≤ qa_n y := by have := gl (qa_n y); rw [if_pos hi] at this; exact this
  have gk1 : ∀ k, k < qa_n y → qm_in (qm_rel (v 2 i 11) P i) (nI k) = true → (G k).length < qa_n y := by
    intro k hk h
    have h1 := gl (k + 1)
    rw [gs k h, List.length_append, List.length_cons, List.length_nil] at h1
    split at h1 <;> omega
  have g0 : G 0 = [(v 9 0 (r * qa_n y + i))] := by rw [hG]; rfl
  have loop : ∀ (d k : Nat) (u : qa_M) (H : Heap) (locs : List Loc) (ls : Array Slot), k + d = qa_n y → qa_C y u s H locs → ((∀ a b, ¬ (a = 11 ∧ b = 1) → u a b = v a b) ∧ qm_hd (u 11 1) (G k)) → lv_has ls 10 [(9, .int (nI k)), (8, .int (qm_rel (v 2 i 11) P i)), (7, .int (nI ((G k).length))), (6, .ref (qa_a y 11 1)), (5, .int (v 9 0 (r * qa_n y + i))), (0, .ref (qa_a y 8 0)), (1, .ref (qa_a y 2 i)), (2, .int (nI r)), (3, .int P), (4, .int 1)] → W p l e (qa_R 3) s m [.ref (qa_a y 8 0), .ref (qa_a y 2 i), .int (nI r), .int P, .int 1].toArray below meth c H locs 0 0 (MQ below (va_Qi (fun q u => q = qm_mk1 (qa_n y) (v 9 0) (v 2 i 11) P i r ∧ ∀ a b, ¬ (a = 11 ∧ b = 1) → u a b = v a b) (fun u t => qa_W y u t) (qa_A y)) [.ref (qa_a y 8 0), .ref (qa_a y 2 i), .int (nI r), .int P, .int 1].toArray s 0 0 (qa_A y)) (F0 m 64 ls []) := by
    intro d
    induction d with
    | zero =>
      intro k u H locs ls hkd hC hI hl
      obtain rfl : qa_n y = k := by omega
      have em : qm_mk1 (qa_n y) (v 9 0) (v 2 i 11) P i r = qm_maj (G (qa_n y)) := by rw [hG]; rfl
      rcases qm_mp_maj hI.2 (by omega) with ⟨e1, e2⟩ | ⟨p9, hp9, e1, e2⟩
      · have e3 : ¬ 0 ≤ qm_mp (u 11 1) (G (qa_n y)).length (nI (G (qa_n y)).length) := by rw [e1]; decide
        refine lv_iload hx hb d_RL_make_64 (lv_at hl 0 rfl) ?_
        refine lv_aload_n hx hb d_RL_make_66 rfl (lv_at hl 5 rfl) ?_
        refine qa_get (k := 8) (i := 0) (f := 0) (val := .ref (qa_a y 1 0)) E hC Nat.one_pos rfl rfl (by decide) f_RL_7 rfl rfl d_RL_make_67 ?_
        refine qa_len (k := 1) (i := 0) E hC Nat.one_pos rfl (v0 := nI (qa_n y)) rfl d_RL_make_70 ?_
        refine lv_icmp_ge hx hb d_RL_make_71 rfl (fun _ => ?_) (fun h9 => absurd (nI_le (Nat.le_refl _) (by omega)) h9)
        refine lv_aload hx hb d_RL_make_120 (lv_at hl 3 rfl) ?_
        refine lv_iload hx hb d_RL_make_122 (lv_at hl 2 rfl) ?_
        refine lv_iload hx hb d_RL_make_124 (lv_at hl 2 rfl) ?_
        refine qa_pNW (As := [.ref (qa_a y 11 1), .int (nI ((G (qa_n y)).length)), .int (nI ((G (qa_n y)).length))]) E hC (c_VF_majorityPlace_11 l y u 1 ((G (qa_n y)).length) (nI ((G (qa_n y)).length)) hm gn1) k_RL_86 (qa_fitR (by decide) (by decide)) rfl hl.1 rfl (Nat.le_of_ble_eq_true rfl) d_RL_make_126 ?_
        refine lv_istore hx hb d_RL_make_129 hl (by decide) rfl (fun ls hl => ?_)
        have hl : lv_has ls 10 [(9, .int (qm_mp (u 11 1) ((G (qa_n y)).length) (nI ((G (qa_n y)).length)))), (8, .int (qm_rel (v 2 i 11) P i)), (7, .int (nI ((G (qa_n y)).length))), (6, .ref (qa_a y 11 1)), (5, .int (v 9 0 (r * qa_n y + i))), (0, .ref (qa_a y 8 0)), (1, .ref (qa_a y 2 i)), (2, .int (nI r)), (3, .int P), (4, .int 1)] := hl
        refine lv_iload hx hb d_RL_make_131 (lv_at hl 0 rfl) ?_
        refine lv_if_ge hx hb d_RL_make_133 rfl (fun h9 => absurd h9 e3) (fun _ => ?_)
        refine lv_iconst (v := 0) hx hb d_RL_make_136 (by decide) ?_
        refine lv_goto hx hb d_RL_make_137 rfl ?_
        exact qa_mret E hC hr hlocks ⟨by rw [em, e2], hI.1⟩ d_RL_make_145
      · have e3 : 0 ≤ qm_mp (u 11 1) (G (qa_n y)).length (nI (G (qa_n y)).length) := by rw [e1]; exact nI_pos' (by omega)
        have hp9n : p9 < qa_n y := by omega
        refine lv_iload hx hb d_RL_make_64 (lv_at hl 0 rfl) ?_
        refine lv_aload_n hx hb d_RL_make_66 rfl (lv_at hl 5 rfl) ?_
        refine qa_get (k := 8) (i := 0) (f := 0) (val := .ref (qa_a y 1 0)) E hC Nat.one_pos rfl rfl (by decide) f_RL_7 rfl rfl d_RL_make_67 ?_
        refine qa_len (k := 1) (i := 0) E hC Nat.one_pos rfl (v0 := nI (qa_n y)) rfl d_RL_make_70 ?_
        refine lv_icmp_ge hx hb d_RL_make_71 rfl (fun _ => ?_) (fun h9 => absurd (nI_le (Nat.le_refl _) (by omega)) h9)
        refine lv_aload hx hb d_RL_make_120 (lv_at hl 3 rfl) ?_
        refine lv_iload hx hb d_RL_make_122 (lv_at hl 2 rfl) ?_
        refine lv_iload hx hb d_RL_make_124 (lv_at hl 2 rfl) ?_
        refine qa_pNW (As := [.ref (qa_a y 11 1), .int (nI ((G (qa_n y)).length)), .int (nI ((G (qa_n y)).length))]) E hC (c_VF_majorityPlace_11 l y u 1 ((G (qa_n y)).length) (nI ((G (qa_n y)).length)) hm gn1) k_RL_86 (qa_fitR (by decide) (by decide)) rfl hl.1 rfl (Nat.le_of_ble_eq_true rfl) d_RL_make_126 ?_
        refine lv_istore hx hb d_RL_make_129 hl (by decide) rfl (fun ls hl => ?_)
        have hl : lv_has ls 10 [(9, .int (qm_mp (u 11 1) ((G (qa_n y)).length) (nI ((G (qa_n y)).length)))), (8, .int (qm_rel (v 2 i 11) P i)), (7, .int (nI ((G (qa_n y)).length))), (6, .ref (qa_a y 11 1)), (5, .int (v 9 0 (r * qa_n y + i))), (0, .ref (qa_a y 8 0)), (1, .ref (qa_a y 2 i)), (2, .int (nI r)), (3, .int P), (4, .int 1)] := hl
        refine lv_iload hx hb d_RL_make_131 (lv_at hl 0 rfl) ?_
        refine lv_if_ge hx hb d_RL_make_133 rfl (fun _ => ?_) (fun h9 => absurd e3 h9)
        refine lv_aload hx hb d_RL_make_140 (lv_at hl 3 rfl) ?_
        refine lv_iload hx hb d_RL_make_142 (lv_at hl 0 rfl) ?_
        refine qa_ild (k := 11) (i := 1) (j := p9) E hC hm rfl rfl e1 hp9n d_RL_make_144 ?_
        exact qa_mret E hC hr hlocks ⟨by rw [em, e2], hI.1⟩ d_RL_make_145
    | succ d ih =>
      intro k u H locs ls hkd hC hI hl
      have hk : k < qa_n y := by omega
      refine lv_iload hx hb d_RL_make_64 (lv_at hl 0 rfl) ?_
      refine lv_aload_n hx hb d_RL_make_66 rfl (lv_at hl 5 rfl) ?_
      refine qa_get (k := 8) (i := 0) (f := 0) (val := .ref (qa_a y 1 0)) E hC Nat.one_pos rfl rfl (by decide) f_RL_7 rfl rfl d_RL_make_67 ?_
      refine qa_len (k := 1) (i := 0) E hC Nat.one_pos rfl (v0 := nI (qa_n y)) rfl d_RL_make_70 ?_
      refine lv_icmp_ge hx hb d_RL_make_71 rfl (fun h9 => absurd h9 (nI_ge hk (by omega))) (fun _ => ?_)
      refine lv_iload hx hb d_RL_make_74 (lv_at hl 1 rfl) ?_
      refine lv_iload hx hb d_RL_make_76 (lv_at hl 0 rfl) ?_
      refine qa_pN (As := [.int (qm_rel (v 2 i 11) P i), .int (nI k)]) E (c_VF_contains l (qm_rel (v 2 i 11) P i) (nI k)) k_RL_57 (qa_fitR (by decide) (by decide)) rfl hl.1 rfl (Nat.le_of_ble_eq_true rfl) d_RL_make_78 ?_
      refine lv_if_eq hx hb d_RL_make_81 rfl (fun h81 => ?_) (fun h81 => ?_)
      · refine lv_iinc (v := nI (k + 1)) hx hb d_RL_make_114 hl (k := 0) rfl (nI_1 k) (by decide) rfl (fun ls hl => ?_)
        have hl : lv_has ls 10 [(9, .int (nI (k + 1))), (8, .int (qm_rel (v 2 i 11) P i)), (7, .int (nI ((G k).length))), (6, .ref (qa_a y 11 1)), (5, .int (v 9 0 (r * qa_n y + i))), (0, .ref (qa_a y 8 0)), (1, .ref (qa_a y 2 i)), (2, .int (nI r)), (3, .int P), (4, .int 1)] := hl
        refine lv_goto hx hb d_RL_make_117 rfl ?_
        have e8 := gn k (qb_e0 h81)
        refine ih (k + 1) u H locs ls (by omega) hC ⟨hI.1, by rw [e8]; exact hI.2⟩ ?_
        rw [e8]
        exact lv_sub hl [0, 1, 2, 3, 4, 5, 6, 7, 8, 9] rfl
      · refine lv_aload hx hb d_RL_make_84 (lv_at hl 3 rfl) ?_
        refine lv_iload hx hb d_RL_make_86 (lv_at hl 2 rfl) ?_
        refine lv_aload_n hx hb d_RL_make_88 rfl (lv_at hl 5 rfl) ?_
        refine lv_aload_n hx hb d_RL_make_89 rfl (lv_at hl 6 rfl) ?_
        refine lv_aload_n hx hb d_RL_make_90 rfl (lv_at hl 5 rfl) ?_
        refine lv_iload_n hx hb d_RL_make_91 rfl (lv_at hl 7 rfl) ?_
        refine lv_iload hx hb d_RL_make_92 (lv_at hl 0 rfl) ?_
        refine qa_pV (k := 8) (i := 0) (As := [.int (nI r), .int (nI k)]) E hC (c_RL_follow l y u (nI r) (nI k)) Nat.one_pos rfl rfl k_RL_80 (qa_fitR (by decide) (by decide)) rfl hl.1 rfl (Nat.le_of_ble_eq_true rfl) d_RL_make_94 ?_
        refine lv_iload_n hx hb d_RL_make_97 rfl (lv_at hl 8 rfl) ?_
        refine lv_iconst (v := 1) hx hb d_RL_make_98 (by decide) ?_
        refine lv_iload hx hb d_RL_make_99 (lv_at hl 0 rfl) ?_
        refine lv_ishl hx hb d_RL_make_101 ?_
        refine lv_ior hx hb d_RL_make_102 ?_
        refine lv_iload hx hb d_RL_make_103 (lv_at hl 9 rfl) ?_
        refine lv_iconst (v := 1) hx hb d_RL_make_105 (by decide) ?_
        refine lv_isub hx hb d_RL_make_106 ?_
        have hkr := qb_n0 h81
        have hkl := gk1 k hk hkr
        rw [show nI r * nI (qa_n y) + 1 + nI k = nI (r * qa_n y + 1 + k) by rw [pk_mul, nI_1, nI_add]]
        rw [show (1 : Int32) - 1 = 0 by decide]
        refine qa_mV (k := 8) (i := 0) (As := [.ref (qa_a y 2 i), .int (nI (r * qa_n y + 1 + k)), .int (P ||| ((1 : Int32) <<< ((nI k) &&& 31))), .int 0]) E hC (c_RL_make0 l y u i (r * qa_n y + 1 + k) (P ||| ((1 : Int32) <<< ((nI k) &&& 31))) hi (by rcases qm_n47 hn4 hn7 with e | e | e | e <;> rw [e] at hrow hk ⊢ <;> omega)) Nat.one_pos rfl rfl k_RL_63 (qa_fitR (by decide) (by decide)) rfl hl.1 rfl (Nat.le_of_ble_eq_true rfl) d_RL_make_107 (fun r1 u1 H locs hp1 hC => ?_)
        have e5 : r1 = (fun j => v 9 0 ((r * qa_n y + 1 + j) * qa_n y + i)) k := by rw [hp1.1, hI.1 9 0 (fun z => absurd z.1 (by decide))]
        have e6 : ∀ a b, ¬ (a = 11 ∧ b = 1) → u1 a b = v a b := fun a b h => by rw [hp1.2]; exact hI.1 a b h
        have e7 : qm_hd (u1 11 1) (G k) := by rw [hp1.2]; exact hI.2
        refine qa_ist (k := 11) (i := 1) (j := ((G k).length)) E hC hm rfl rfl rfl hkl d_RL_make_110 (fun H locs hC => ?_)
        refine lv_iinc (v := nI (((G k).length) + 1)) hx hb d_RL_make_111 hl (k := 2) rfl (nI_1 ((G k).length)) (by decide) rfl (fun ls hl => ?_)
        have hl : lv_has ls 10 [(7, .int (nI (((G k).length) + 1))), (9, .int (nI k)), (8, .int (qm_rel (v 2 i 11) P i)), (6, .ref (qa_a y 11 1)), (5, .int (v 9 0 (r * qa_n y + i))), (0, .ref (qa_a y 8 0)), (1, .ref (qa_a y 2 i)), (2, .int (nI r)), (3, .int P), (4, .int 1)] := hl
        refine lv_iinc (v := nI (k + 1)) hx hb d_RL_make_114 hl (k := 1) rfl (nI_1 k) (by decide) rfl (fun ls hl => ?_)
        have hl : lv_has ls 10 [(9, .int (nI (k + 1))), (7, .int (nI (((G k).length) + 1))), (8, .int (qm_rel (v 2 i 11) P i)), (6, .ref (qa_a y 11 1)), (5, .int (v 9 0 (r * qa_n y + i))), (0, .ref (qa_a y 8 0)), (1, .ref (qa_a y 2 i)), (2, .int (nI r)), (3, .int P), (4, .int 1)] := hl
        refine lv_goto hx hb d_RL_make_117 rfl ?_
        have e8 := gs k hkr
        refine ih (k + 1) _ H locs ls (by omega) hC ⟨fun a b h => ?_, ?_⟩ ?_
        · rw [qa_up_ii (fun z => h z)]; exact e6 a b h
        · rw [e8]
          refine qm_hd_push e7 ?_ (fun q hq => by rw [qa_up_f (by omega)])
          rw [qa_up_s, e5]
        · rw [e8, show (G k ++ [(fun j => v 9 0 ((r * qa_n y + 1 + j) * qa_n y + i)) k]).length = (G k).length + 1 by simp]
          exact lv_sub hl [0, 2, 1, 3, 4, 5, 6, 7, 8, 9] rfl
  refine lv_aload_n hx hb d_RL_make_0 rfl (lv_at hl 0 rfl) ?_
  refine qa_get (k := 8) (i := 0) (f := 2) (val := .ref (qa_a y 9 0)) E hC Nat.one_pos rfl rfl (by decide) f_RL_17 rfl rfl d_RL_make_1 ?_
  refine lv_aload_n hx hb d_RL_make_4 rfl (lv_at hl 0 rfl) ?_
  refine lv_iload_n hx hb d_RL_make_5 rfl (lv_at hl 2 rfl) ?_
  refine lv_aload_n hx hb d_RL_make_6 rfl (lv_at hl 1 rfl) ?_
  refine qa_get (k := 2) (i := i) (f := 0) (val := .int (nI i)) E hC hi rfl rfl (by decide) f_RL_83 rfl rfl d_RL_make_7 ?_
  refine qa_pV (k := 8) (i := 0) (As := [.int (nI r), .int (nI i)]) E hC (c_RL_placeOf l y v (nI r) (nI i)) Nat.one_pos rfl rfl k_RL_74 (qa_fitR (by decide) (by decide)) rfl hl.1 rfl (Nat.le_of_ble_eq_true rfl) d_RL_make_10 ?_
  refine qa_ild (k := 9) (i := 0) (j := (r * qa_n y + i)) E hC Nat.one_pos rfl rfl (by rw [pk_mul, nI_add]) (show r * qa_n y + i < qa_h y by omega) d_RL_make_13 ?_
  refine lv_istore hx hb d_RL_make_14 hl (by decide) rfl (fun ls hl => ?_)
  have hl : lv_has ls 10 [(5, .int (v 9 0 (r * qa_n y + i))), (0, .ref (qa_a y 8 0)), (1, .ref (qa_a y 2 i)), (2, .int (nI r)), (3, .int P), (4, .int 1)] := hl
  refine lv_iload hx hb d_RL_make_16 (lv_at hl 5 rfl) ?_
  refine lv_if_gt hx hb d_RL_make_18 rfl (fun _ => ?_) (fun h9 => absurd (by decide) h9)
  refine lv_aload_n hx hb d_RL_make_24 rfl (lv_at hl 1 rfl) ?_
  refine qa_get (k := 8) (i := 0) (f := 3) (val := .ref (qa_a y 10 0)) E hC Nat.one_pos rfl rfl (by decide) f_RL_23 rfl rfl d_RL_make_25 ?_
  refine lv_iload hx hb d_RL_make_28 (lv_at hl 5 rfl) ?_
  refine qa_ald2 (k := 10) (i := 0) (j := 1) E hC Nat.one_pos rfl rfl rfl rfl rfl hm d_RL_make_30 ?_
  refine lv_astore hx hb d_RL_make_31 hl (by decide) rfl (fun ls hl => ?_)
  have hl : lv_has ls 10 [(6, .ref (qa_a y 11 1)), (5, .int (v 9 0 (r * qa_n y + i))), (0, .ref (qa_a y 8 0)), (1, .ref (qa_a y 2 i)), (2, .int (nI r)), (3, .int P), (4, .int 1)] := hl
  refine lv_aload hx hb d_RL_make_33 (lv_at hl 0 rfl) ?_
  refine lv_iconst (v := 0) hx hb d_RL_make_35 (by decide) ?_
  refine lv_iload hx hb d_RL_make_36 (lv_at hl 1 rfl) ?_
  refine qa_ist (k := 11) (i := 1) (j := 0) E hC hm rfl rfl rfl (show 0 < qa_n y by omega) d_RL_make_38 (fun H locs hC => ?_)
  refine lv_iconst (v := 1) hx hb d_RL_make_39 (by decide) ?_
  refine lv_istore hx hb d_RL_make_40 hl (by decide) rfl (fun ls hl => ?_)
  have hl : lv_has ls 10 [(7, .int 1), (6, .ref (qa_a y 11 1)), (5, .int (v 9 0 (r * qa_n y + i))), (0, .ref (qa_a y 8 0)), (1, .ref (qa_a y 2 i)), (2, .int (nI r)), (3, .int P), (4, .int 1)] := hl
  refine lv_aload_n hx hb d_RL_make_42 rfl (lv_at hl 4 rfl) ?_
  refine qa_get (k := 2) (i := i) (f := 11) (val := .int ((qa_up v 11 1 0 (v 9 0 (r * qa_n y + i))) 2 i 11)) E hC hi rfl rfl (by decide) f_RL_54 rfl rfl d_RL_make_43 ?_
  refine lv_iload_n hx hb d_RL_make_46 rfl (lv_at hl 6 rfl) ?_
  refine lv_iconst (v := -1) hx hb d_RL_make_47 (by decide) ?_
  refine lv_ixor hx hb d_RL_make_48 ?_
  refine lv_iand hx hb d_RL_make_49 ?_
  refine lv_iconst (v := 1) hx hb d_RL_make_50 (by decide) ?_
  refine lv_aload_n hx hb d_RL_make_51 rfl (lv_at hl 4 rfl) ?_
  refine qa_get (k := 2) (i := i) (f := 0) (val := .int (nI i)) E hC hi rfl rfl (by decide) f_RL_83 rfl rfl d_RL_make_52 ?_
  refine lv_ishl hx hb d_RL_make_55 ?_
  refine lv_iconst (v := -1) hx hb d_RL_make_56 (by decide) ?_
  refine lv_ixor hx hb d_RL_make_57 ?_
  refine lv_iand hx hb d_RL_make_58 ?_
  rw [qa_up_k (by decide)]
  refine W.eq (g2 := F0 m 59 ls [.int (qm_rel (v 2 i 11) P i)]) rfl ?_
  refine lv_istore hx hb d_RL_make_59 hl (by decide) rfl (fun ls hl => ?_)
  have hl : lv_has ls 10 [(8, .int (qm_rel (v 2 i 11) P i)), (7, .int 1), (6, .ref (qa_a y 11 1)), (5, .int (v 9 0 (r * qa_n y + i))), (0, .ref (qa_a y 8 0)), (1, .ref (qa_a y 2 i)), (2, .int (nI r)), (3, .int P), (4, .int 1)] := hl
  refine lv_iconst (v := 0) hx hb d_RL_make_61 (by decide) ?_
  refine lv_istore hx hb d_RL_make_62 hl (by decide) rfl (fun ls hl => ?_)
  have hl : lv_has ls 10 [(9, .int 0), (8, .int (qm_rel (v 2 i 11) P i)), (7, .int 1), (6, .ref (qa_a y 11 1)), (5, .int (v 9 0 (r * qa_n y + i))), (0, .ref (qa_a y 8 0)), (1, .ref (qa_a y 2 i)), (2, .int (nI r)), (3, .int P), (4, .int 1)] := hl
  refine loop (qa_n y) 0 _ H locs ls (by omega) hC ⟨fun a b h => qa_up_ii (fun z => h z), ?_⟩ ?_
  · rw [g0]
    intro q hq
    obtain rfl : q = 0 := by simp at hq; exact hq
    rw [qa_up_s]; rfl
  · rw [g0]
    have hl : lv_has ls 10 [(9, .int 0), (8, .int (qm_rel (v 2 i 11) P i)), (7, .int 1), (6, .ref (qa_a y 11 1)), (5, .int (v 9 0 (r * qa_n y + i))), (0, .ref (qa_a y 8 0)), (1, .ref (qa_a y 2 i)), (2, .int (nI r)), (3, .int P), (4, .int 1)] := hl
    exact lv_sub hl [0, 1, 2, 3, 4, 5, 6, 7, 8, 9] rfl

set_option maxHeartbeats 4000000 in
set_option maxRecDepth 100000 in
theorem c_RL_make2 (l : Launch) (y : qa_L) (v : qa_M) (i : Nat) (P : Int32) (hi : i < qa_n y) (hm : 2 < qa_m y + 1) (hrow : (qa_n y * qa_n y + qa_n y) * qa_n y + qa_n y ≤ qa_h y) : qa_Mi l y_RL_make b_RL_make 10 (some .int) 4 [.ref (qa_a y 8 0), .ref (qa_a y 2 i), .int (nI 0), .int P, .int 2] y v (fun q u => q = qm_mk2 (qa_n y) (v 9 0) (v 2 i 11) P i ∧ ∀ a b, ¬ (a = 11 ∧ (b = 1 ∨ b = 2)) → u a b = v a b) := by
  refine qa_ofMi (plainFor_of_name (by decide)) (Nat.le_of_ble_eq_true rfl) ?_
  intro p e s m below meth c ls E hr hlocks hC hl
  have E : qa_E p m c b_RL_make 10 s _ "VotedFrames$Relay" y := E
  have F := E.1
  have hx := F.1
  have hb := F.2.1
  have hown : s.vm.findClass "VotedFrames$Relay" = some m.cls := F.2.2.2.1
  have hts := F.2.2.2.2
  have hn4 : 4 ≤ qa_n y := E.2.1.2.2.1
  have hn7 : qa_n y ≤ 7 := E.2.1.2.2.2.1
  have hl : lv_has ls 10 [(0, .ref (qa_a y 8 0)), (1, .ref (qa_a y 2 i)), (2, .int (nI 0)), (3, .int P), (4, .int 2)] := hl
  have hh31 := qa_h_lt E.2.1
  have hb0 : 0 * qa_n y + qa_n y ≤ qa_h y := by rcases qm_n47 hn4 hn7 with e | e | e | e <;> rw [e] at hrow ⊢ <;> omega
  obtain ⟨G, hG⟩ : ∃ G : Nat → List Int32, G = qm_ls (fun j => qm_in (qm_rel (v 2 i 11) P i) (nI j)) (v 9 0 (0 * qa_n y + i)) (fun j => qm_mk1 (qa_n y) (v 9 0) (v 2 i 11) (qm_ad P j) i (0 * qa_n y + 1 + j)) := ⟨_, rfl⟩
  have gs : ∀ k, qm_in (qm_rel (v 2 i 11) P i) (nI k) = true → G (k + 1) = G k ++ [(fun j => qm_mk1 (qa_n y) (v 9 0) (v 2 i 11) (qm_ad P j) i (0 * qa_n y + 1 + j)) k] := fun k h => by rw [hG]; exact qm_ls_t h
  have gn : ∀ k, qm_in (qm_rel (v 2 i 11) P i) (nI k) = false → G (k + 1) = G k := fun k h => by rw [hG]; exact qm_ls_f h
  have gi : qm_in (qm_rel (v 2 i 11) P i) (nI i) = false := by rw [qm_in_rel _ _ (by omega) (by omega)]; simp
  have gl : ∀ k, (G k).length ≤ if i < k then k else k + 1 := fun k => by rw [hG]; exact qm_ls_len gi k
  have gn1 : (G (qa_n y)).length ≤ qa_n y := by have := gl (qa_n y); rw [if_pos hi] at this; exact this
  have gk1 : ∀ k, k < qa_n y → qm_in (qm_rel (v 2 i 11) P i) (nI k) = true → (G k).length < qa_n y := by
    intro k hk h
    have h1 := gl (k + 1)
    rw [gs k h, List.length_append, List.length_cons, List.length_nil] at h1
    split at h1 <;> omega
  have g0 : G 0 = [(v 9 0 (0 * qa_n y + i))] := by rw [hG]; rfl
  have loop : ∀ (d k : Nat) (u : qa_M) (H : Heap) (locs : List Loc) (ls : Array Slot), k + d = qa_n y → qa_C y u s H locs → ((∀ a b, ¬ (a = 11 ∧ (b = 1 ∨ b = 2)) → u a b = v a b) ∧ qm_hd (u 11 2) (G k)) → lv_has ls 10 [(9, .int (nI k)), (8, .int (qm_rel (v 2 i 11) P i)), (7, .int (nI ((G k).length))), (6, .ref (qa_a y 11 2)), (5, .int (v 9 0 (0 * qa_n y + i))), (0, .ref (qa_a y 8 0)), (1, .ref (qa_a y 2 i)), (2, .int (nI 0)), (3, .int P), (4, .int 2)] → W p l e (qa_R 4) s m [.ref (qa_a y 8 0), .ref (qa_a y 2 i), .int (nI 0), .int P, .int 2].toArray below meth c H locs 0 0 (MQ below (va_Qi (fun q u => q = qm_mk2 (qa_n y) (v 9 0) (v 2 i 11) P i ∧ ∀ a b, ¬ (a = 11 ∧ (b = 1 ∨ b = 2)) → u a b = v a b) (fun u t => qa_W y u t) (qa_A y)) [.ref (qa_a y 8 0), .ref (qa_a y 2 i), .int (nI 0), .int P, .int 2].toArray s 0 0 (qa_A y)) (F0 m 64 ls []) := by
    intro d
    induction d with
    | zero =>
      intro k u H locs ls hkd hC hI hl
      obtain rfl : qa_n y = k := by omega
      have em : qm_mk2 (qa_n y) (v 9 0) (v 2 i 11) P i = qm_maj (G (qa_n y)) := by rw [hG]; rfl
      rcases qm_mp_maj hI.2 (by omega) with ⟨e1, e2⟩ | ⟨p9, hp9, e1, e2⟩
      · have e3 : ¬ 0 ≤ qm_mp (u 11 2) (G (qa_n y)).length (nI (G (qa_n y)).length) := by rw [e1]; decide
        refine lv_iload hx hb d_RL_make_64 (lv_at hl 0 rfl) ?_
        refine lv_aload_n hx hb d_RL_make_66 rfl (lv_at hl 5 rfl) ?_
        refine qa_get (k := 8) (i := 0) (f := 0) (val := .ref (qa_a y 1 0)) E hC Nat.one_pos rfl rfl (by decide) f_RL_7 rfl rfl d_RL_make_67 ?_
        refine qa_len (k := 1) (i := 0) E hC Nat.one_pos rfl (v0 := nI (qa_n y)) rfl d_RL_make_70 ?_
        refine lv_icmp_ge hx hb d_RL_make_71 rfl (fun _ => ?_) (fun h9 => absurd (nI_le (Nat.le_refl _) (by omega)) h9)
        refine lv_aload hx hb d_RL_make_120 (lv_at hl 3 rfl) ?_
        refine lv_iload hx hb d_RL_make_122 (lv_at hl 2 rfl) ?_
        refine lv_iload hx hb d_RL_make_124 (lv_at hl 2 rfl) ?_
        refine qa_pNW (As := [.ref (qa_a y 11 2), .int (nI ((G (qa_n y)).length)), .int (nI ((G (qa_n y)).length))]) E hC (c_VF_majorityPlace_11 l y u 2 ((G (qa_n y)).length) (nI ((G (qa_n y)).length)) hm gn1) k_RL_86 (qa_fitR (by decide) (by decide)) rfl hl.1 rfl (Nat.le_of_ble_eq_true rfl) d_RL_make_126 ?_
        refine lv_istore hx hb d_RL_make_129 hl (by decide) rfl (fun ls hl => ?_)
        have hl : lv_has ls 10 [(9, .int (qm_mp (u 11 2) ((G (qa_n y)).length) (nI ((G (qa_n y)).length)))), (8, .int (qm_rel (v 2 i 11) P i)), (7, .int (nI ((G (qa_n y)).length))), (6, .ref (qa_a y 11 2)), (5, .int (v 9 0 (0 * qa_n y + i))), (0, .ref (qa_a y 8 0)), (1, .ref (qa_a y 2 i)), (2, .int (nI 0)), (3, .int P), (4, .int 2)] := hl
        refine lv_iload hx hb d_RL_make_131 (lv_at hl 0 rfl) ?_
        refine lv_if_ge hx hb d_RL_make_133 rfl (fun h9 => absurd h9 e3) (fun _ => ?_)
        refine lv_iconst (v := 0) hx hb d_RL_make_136 (by decide) ?_
        refine lv_goto hx hb d_RL_make_137 rfl ?_
        exact qa_mret E hC hr hlocks ⟨by rw [em, e2], hI.1⟩ d_RL_make_145
      · have e3 : 0 ≤ qm_mp (u 11 2) (G (qa_n y)).length (nI (G (qa_n y)).length) := by rw [e1]; exact nI_pos' (by omega)
        have hp9n : p9 < qa_n y := by omega
        refine lv_iload hx hb d_RL_make_64 (lv_at hl 0 rfl) ?_
        refine lv_aload_n hx hb d_RL_make_66 rfl (lv_at hl 5 rfl) ?_
        refine qa_get (k := 8) (i := 0) (f := 0) (val := .ref (qa_a y 1 0)) E hC Nat.one_pos rfl rfl (by decide) f_RL_7 rfl rfl d_RL_make_67 ?_
        refine qa_len (k := 1) (i := 0) E hC Nat.one_pos rfl (v0 := nI (qa_n y)) rfl d_RL_make_70 ?_
        refine lv_icmp_ge hx hb d_RL_make_71 rfl (fun _ => ?_) (fun h9 => absurd (nI_le (Nat.le_refl _) (by omega)) h9)
        refine lv_aload hx hb d_RL_make_120 (lv_at hl 3 rfl) ?_
        refine lv_iload hx hb d_RL_make_122 (lv_at hl 2 rfl) ?_
        refine lv_iload hx hb d_RL_make_124 (lv_at hl 2 rfl) ?_
        refine qa_pNW (As := [.ref (qa_a y 11 2), .int (nI ((G (qa_n y)).length)), .int (nI ((G (qa_n y)).length))]) E hC (c_VF_majorityPlace_11 l y u 2 ((G (qa_n y)).length) (nI ((G (qa_n y)).length)) hm gn1) k_RL_86 (qa_fitR (by decide) (by decide)) rfl hl.1 rfl (Nat.le_of_ble_eq_true rfl) d_RL_make_126 ?_
        refine lv_istore hx hb d_RL_make_129 hl (by decide) rfl (fun ls hl => ?_)
        have hl : lv_has ls 10 [(9, .int (qm_mp (u 11 2) ((G (qa_n y)).length) (nI ((G (qa_n y)).length)))), (8, .int (qm_rel (v 2 i 11) P i)), (7, .int (nI ((G (qa_n y)).length))), (6, .ref (qa_a y 11 2)), (5, .int (v 9 0 (0 * qa_n y + i))), (0, .ref (qa_a y 8 0)), (1, .ref (qa_a y 2 i)), (2, .int (nI 0)), (3, .int P), (4, .int 2)] := hl
        refine lv_iload hx hb d_RL_make_131 (lv_at hl 0 rfl) ?_
        refine lv_if_ge hx hb d_RL_make_133 rfl (fun _ => ?_) (fun h9 => absurd e3 h9)
        refine lv_aload hx hb d_RL_make_140 (lv_at hl 3 rfl) ?_
        refine lv_iload hx hb d_RL_make_142 (lv_at hl 0 rfl) ?_
        refine qa_ild (k := 11) (i := 2) (j := p9) E hC hm rfl rfl e1 hp9n d_RL_make_144 ?_
        exact qa_mret E hC hr hlocks ⟨by rw [em, e2], hI.1⟩ d_RL_make_145
    | succ d ih =>
      intro k u H locs ls hkd hC hI hl
      have hk : k < qa_n y := by omega
      refine lv_iload hx hb d_RL_make_64 (lv_at hl 0 rfl) ?_
      refine lv_aload_n hx hb d_RL_make_66 rfl (lv_at hl 5 rfl) ?_
      refine qa_get (k := 8) (i := 0) (f := 0) (val := .ref (qa_a y 1 0)) E hC Nat.one_pos rfl rfl (by decide) f_RL_7 rfl rfl d_RL_make_67 ?_
      refine qa_len (k := 1) (i := 0) E hC Nat.one_pos rfl (v0 := nI (qa_n y)) rfl d_RL_make_70 ?_
      refine lv_icmp_ge hx hb d_RL_make_71 rfl (fun h9 => absurd h9 (nI_ge hk (by omega))) (fun _ => ?_)
      refine lv_iload hx hb d_RL_make_74 (lv_at hl 1 rfl) ?_
      refine lv_iload hx hb d_RL_make_76 (lv_at hl 0 rfl) ?_
      refine qa_pN (As := [.int (qm_rel (v 2 i 11) P i), .int (nI k)]) E (c_VF_contains l (qm_rel (v 2 i 11) P i) (nI k)) k_RL_57 (qa_fitR (by decide) (by decide)) rfl hl.1 rfl (Nat.le_of_ble_eq_true rfl) d_RL_make_78 ?_
      refine lv_if_eq hx hb d_RL_make_81 rfl (fun h81 => ?_) (fun h81 => ?_)
      · refine lv_iinc (v := nI (k + 1)) hx hb d_RL_make_114 hl (k := 0) rfl (nI_1 k) (by decide) rfl (fun ls hl => ?_)
        have hl : lv_has ls 10 [(9, .int (nI (k + 1))), (8, .int (qm_rel (v 2 i 11) P i)), (7, .int (nI ((G k).length))), (6, .ref (qa_a y 11 2)), (5, .int (v 9 0 (0 * qa_n y + i))), (0, .ref (qa_a y 8 0)), (1, .ref (qa_a y 2 i)), (2, .int (nI 0)), (3, .int P), (4, .int 2)] := hl
        refine lv_goto hx hb d_RL_make_117 rfl ?_
        have e8 := gn k (qb_e0 h81)
        refine ih (k + 1) u H locs ls (by omega) hC ⟨hI.1, by rw [e8]; exact hI.2⟩ ?_
        rw [e8]
        exact lv_sub hl [0, 1, 2, 3, 4, 5, 6, 7, 8, 9] rfl
      · refine lv_aload hx hb d_RL_make_84 (lv_at hl 3 rfl) ?_
        refine lv_iload hx hb d_RL_make_86 (lv_at hl 2 rfl) ?_
        refine lv_aload_n hx hb d_RL_make_88 rfl (lv_at hl 5 rfl) ?_
        refine lv_aload_n hx hb d_RL_make_89 rfl (lv_at hl 6 rfl) ?_
        refine lv_aload_n hx hb d_RL_make_90 rfl (lv_at hl 5 rfl) ?_
        refine lv_iload_n hx hb d_RL_make_91 rfl (lv_at hl 7 rfl) ?_
        refine lv_iload hx hb d_RL_make_92 (lv_at hl 0 rfl) ?_
        refine qa_pV (k := 8) (i := 0) (As := [.int (nI 0), .int (nI k)]) E hC (c_RL_follow l y u (nI 0) (nI k)) Nat.one_pos rfl rfl k_RL_80 (qa_fitR (by decide) (by decide)) rfl hl.1 rfl (Nat.le_of_ble_eq_true rfl) d_RL_make_94 ?_
        refine lv_iload_n hx hb d_RL_make_97 rfl (lv_at hl 8 rfl) ?_
        refine lv_iconst (v := 1) hx hb d_RL_make_98 (by decide) ?_
        refine lv_iload hx hb d_RL_make_99 (lv_at hl 0 rfl) ?_
        refine lv_ishl hx hb d_RL_make_101 ?_
        refine lv_ior hx hb d_RL_make_102 ?_
        refine lv_iload hx hb d_RL_make_103 (lv_at hl 9 rfl) ?_
        refine lv_iconst (v := 1) hx hb d_RL_make_105 (by decide) ?_
        refine lv_isub hx hb d_RL_make_106 ?_
        have hkr := qb_n0 h81
        have hkl := gk1 k hk hkr
        rw [show nI 0 * nI (qa_n y) + 1 + nI k = nI (0 * qa_n y + 1 + k) by rw [pk_mul, nI_1, nI_add]]
        rw [show (2 : Int32) - 1 = 1 by decide]
        refine qa_mV (k := 8) (i := 0) (As := [.ref (qa_a y 2 i), .int (nI (0 * qa_n y + 1 + k)), .int (P ||| ((1 : Int32) <<< ((nI k) &&& 31))), .int 1]) E hC (c_RL_make1 l y u i (0 * qa_n y + 1 + k) (P ||| ((1 : Int32) <<< ((nI k) &&& 31))) hi (by omega) (by rcases qm_n47 hn4 hn7 with e | e | e | e <;> rw [e] at hrow hk ⊢ <;> omega)) Nat.one_pos rfl rfl k_RL_63 (qa_fitR (by decide) (by decide)) rfl hl.1 rfl (Nat.le_of_ble_eq_true rfl) d_RL_make_107 (fun r1 u1 H locs hp1 hC => ?_)
        have e5 : r1 = (fun j => qm_mk1 (qa_n y) (v 9 0) (v 2 i 11) (qm_ad P j) i (0 * qa_n y + 1 + j)) k := by rw [hp1.1, hI.1 9 0 (fun z => absurd z.1 (by decide)), hI.1 2 i (fun z => absurd z.1 (by decide))]; rfl
        have e6 : ∀ a b, ¬ (a = 11 ∧ (b = 1 ∨ b = 2)) → u1 a b = v a b := fun a b h => (hp1.2 a b (fun z => h ⟨z.1, Or.inl z.2⟩)).trans (hI.1 a b h)
        have e7 : qm_hd (u1 11 2) (G k) := by rw [hp1.2 11 2 (by decide)]; exact hI.2
        refine qa_ist (k := 11) (i := 2) (j := ((G k).length)) E hC hm rfl rfl rfl hkl d_RL_make_110 (fun H locs hC => ?_)
        refine lv_iinc (v := nI (((G k).length) + 1)) hx hb d_RL_make_111 hl (k := 2) rfl (nI_1 ((G k).length)) (by decide) rfl (fun ls hl => ?_)
        have hl : lv_has ls 10 [(7, .int (nI (((G k).length) + 1))), (9, .int (nI k)), (8, .int (qm_rel (v 2 i 11) P i)), (6, .ref (qa_a y 11 2)), (5, .int (v 9 0 (0 * qa_n y + i))), (0, .ref (qa_a y 8 0)), (1, .ref (qa_a y 2 i)), (2, .int (nI 0)), (3, .int P), (4, .int 2)] := hl
        refine lv_iinc (v := nI (k + 1)) hx hb d_RL_make_114 hl (k := 1) rfl (nI_1 k) (by decide) rfl (fun ls hl => ?_)
        have hl : lv_has ls 10 [(9, .int (nI (k + 1))), (7, .int (nI (((G k).length) + 1))), (8, .int (qm_rel (v 2 i 11) P i)), (6, .ref (qa_a y 11 2)), (5, .int (v 9 0 (0 * qa_n y + i))), (0, .ref (qa_a y 8 0)), (1, .ref (qa_a y 2 i)), (2, .int (nI 0)), (3, .int P), (4, .int 2)] := hl
        refine lv_goto hx hb d_RL_make_117 rfl ?_
        have e8 := gs k hkr
        refine ih (k + 1) _ H locs ls (by omega) hC ⟨fun a b h => ?_, ?_⟩ ?_
        · rw [qa_up_ii (fun z => h ⟨z.1, Or.inr z.2⟩)]; exact e6 a b h
        · rw [e8]
          refine qm_hd_push e7 ?_ (fun q hq => by rw [qa_up_f (by omega)])
          rw [qa_up_s, e5]
        · rw [e8, show (G k ++ [(fun j => qm_mk1 (qa_n y) (v 9 0) (v 2 i 11) (qm_ad P j) i (0 * qa_n y + 1 + j)) k]).length = (G k).length + 1 by simp]
          exact lv_sub hl [0, 2, 1, 3, 4, 5, 6, 7, 8, 9] rfl
  refine lv_aload_n hx hb d_RL_make_0 rfl (lv_at hl 0 rfl) ?_
  refine qa_get (k := 8) (i := 0) (f := 2) (val := .ref (qa_a y 9 0)) E hC Nat.one_pos rfl rfl (by decide) f_RL_17 rfl rfl d_RL_make_1 ?_
  refine lv_aload_n hx hb d_RL_make_4 rfl (lv_at hl 0 rfl) ?_
  refine lv_iload_n hx hb d_RL_make_5 rfl (lv_at hl 2 rfl) ?_
  refine lv_aload_n hx hb d_RL_make_6 rfl (lv_at hl 1 rfl) ?_
  refine qa_get (k := 2) (i := i) (f := 0) (val := .int (nI i)) E hC hi rfl rfl (by decide) f_RL_83 rfl rfl d_RL_make_7 ?_
  refine qa_pV (k := 8) (i := 0) (As := [.int (nI 0), .int (nI i)]) E hC (c_RL_placeOf l y v (nI 0) (nI i)) Nat.one_pos rfl rfl k_RL_74 (qa_fitR (by decide) (by decide)) rfl hl.1 rfl (Nat.le_of_ble_eq_true rfl) d_RL_make_10 ?_
  refine qa_ild (k := 9) (i := 0) (j := (0 * qa_n y + i)) E hC Nat.one_pos rfl rfl (by rw [pk_mul, nI_add]) (show 0 * qa_n y + i < qa_h y by omega) d_RL_make_13 ?_
  refine lv_istore hx hb d_RL_make_14 hl (by decide) rfl (fun ls hl => ?_)
  have hl : lv_has ls 10 [(5, .int (v 9 0 (0 * qa_n y + i))), (0, .ref (qa_a y 8 0)), (1, .ref (qa_a y 2 i)), (2, .int (nI 0)), (3, .int P), (4, .int 2)] := hl
  refine lv_iload hx hb d_RL_make_16 (lv_at hl 5 rfl) ?_
  refine lv_if_gt hx hb d_RL_make_18 rfl (fun _ => ?_) (fun h9 => absurd (by decide) h9)
  refine lv_aload_n hx hb d_RL_make_24 rfl (lv_at hl 1 rfl) ?_
  refine qa_get (k := 8) (i := 0) (f := 3) (val := .ref (qa_a y 10 0)) E hC Nat.one_pos rfl rfl (by decide) f_RL_23 rfl rfl d_RL_make_25 ?_
  refine lv_iload hx hb d_RL_make_28 (lv_at hl 5 rfl) ?_
  refine qa_ald2 (k := 10) (i := 0) (j := 2) E hC Nat.one_pos rfl rfl rfl rfl rfl hm d_RL_make_30 ?_
  refine lv_astore hx hb d_RL_make_31 hl (by decide) rfl (fun ls hl => ?_)
  have hl : lv_has ls 10 [(6, .ref (qa_a y 11 2)), (5, .int (v 9 0 (0 * qa_n y + i))), (0, .ref (qa_a y 8 0)), (1, .ref (qa_a y 2 i)), (2, .int (nI 0)), (3, .int P), (4, .int 2)] := hl
  refine lv_aload hx hb d_RL_make_33 (lv_at hl 0 rfl) ?_
  refine lv_iconst (v := 0) hx hb d_RL_make_35 (by decide) ?_
  refine lv_iload hx hb d_RL_make_36 (lv_at hl 1 rfl) ?_
  refine qa_ist (k := 11) (i := 2) (j := 0) E hC hm rfl rfl rfl (show 0 < qa_n y by omega) d_RL_make_38 (fun H locs hC => ?_)
  refine lv_iconst (v := 1) hx hb d_RL_make_39 (by decide) ?_
  refine lv_istore hx hb d_RL_make_40 hl (by decide) rfl (fun ls hl => ?_)
  have hl : lv_has ls 10 [(7, .int 1), (6, .ref (qa_a y 11 2)), (5, .int (v 9 0 (0 * qa_n y + i))), (0, .ref (qa_a y 8 0)), (1, .ref (qa_a y 2 i)), (2, .int (nI 0)), (3, .int P), (4, .int 2)] := hl
  refine lv_aload_n hx hb d_RL_make_42 rfl (lv_at hl 4 rfl) ?_
  refine qa_get (k := 2) (i := i) (f := 11) (val := .int ((qa_up v 11 2 0 (v 9 0 (0 * qa_n y + i))) 2 i 11)) E hC hi rfl rfl (by decide) f_RL_54 rfl rfl d_RL_make_43 ?_
  refine lv_iload_n hx hb d_RL_make_46 rfl (lv_at hl 6 rfl) ?_
  refine lv_iconst (v := -1) hx hb d_RL_make_47 (by decide) ?_
  refine lv_ixor hx hb d_RL_make_48 ?_
  refine lv_iand hx hb d_RL_make_49 ?_
  refine lv_iconst (v := 1) hx hb d_RL_make_50 (by decide) ?_
  refine lv_aload_n hx hb d_RL_make_51 rfl (lv_at hl 4 rfl) ?_
  refine qa_get (k := 2) (i := i) (f := 0) (val := .int (nI i)) E hC hi rfl rfl (by decide) f_RL_83 rfl rfl d_RL_make_52 ?_
  refine lv_ishl hx hb d_RL_make_55 ?_
  refine lv_iconst (v := -1) hx hb d_RL_make_56 (by decide) ?_
  refine lv_ixor hx hb d_RL_make_57 ?_
  refine lv_iand hx hb d_RL_make_58 ?_
  rw [qa_up_k (by decide)]
  refine W.eq (g2 := F0 m 59 ls [.int (qm_rel (v 2 i 11) P i)]) rfl ?_
  refine lv_istore hx hb d_RL_make_59 hl (by decide) rfl (fun ls hl => ?_)
  have hl : lv_has ls 10 [(8, .int (qm_rel (v 2 i 11) P i)), (7, .int 1), (6, .ref (qa_a y 11 2)), (5, .int (v 9 0 (0 * qa_n y + i))), (0, .ref (qa_a y 8 0)), (1, .ref (qa_a y 2 i)), (2, .int (nI 0)), (3, .int P), (4, .int 2)] := hl
  refine lv_iconst (v := 0) hx hb d_RL_make_61 (by decide) ?_
  refine lv_istore hx hb d_RL_make_62 hl (by decide) rfl (fun ls hl => ?_)
  have hl : lv_has ls 10 [(9, .int 0), (8, .int (qm_rel (v 2 i 11) P i)), (7, .int 1), (6, .ref (qa_a y 11 2)), (5, .int (v 9 0 (0 * qa_n y + i))), (0, .ref (qa_a y 8 0)), (1, .ref (qa_a y 2 i)), (2, .int (nI 0)), (3, .int P), (4, .int 2)] := hl
  refine loop (qa_n y) 0 _ H locs ls (by omega) hC ⟨fun a b h => qa_up_ii (fun z => h ⟨z.1, Or.inr z.2⟩), ?_⟩ ?_
  · rw [g0]
    intro q hq
    obtain rfl : q = 0 := by simp at hq; exact hq
    rw [qa_up_s]; rfl
  · rw [g0]
    have hl : lv_has ls 10 [(9, .int 0), (8, .int (qm_rel (v 2 i 11) P i)), (7, .int 1), (6, .ref (qa_a y 11 2)), (5, .int (v 9 0 (0 * qa_n y + i))), (0, .ref (qa_a y 8 0)), (1, .ref (qa_a y 2 i)), (2, .int (nI 0)), (3, .int P), (4, .int 2)] := hl
    exact lv_sub hl [0, 1, 2, 3, 4, 5, 6, 7, 8, 9] rfl
