set_option maxHeartbeats 4000000 in
set_option maxRecDepth 100000 in
theorem c_MD_makesOfTwo (l : Launch) (y : qa_L) (v : qa_M) (i s0 a0 L : Nat) (x : Int32) (hi : i < qa_n y) (hs0 : s0 < qa_n y) (ha0 : a0 < qa_n y) (w : qa_M) (hR : qm_RM (qa_n y) w v) (hF : qm_fok w) (hB : qm_bear (qa_m y) (w 2 i 11) = nI L) (hM : qm_mok y w) (hL1 : 1 ≤ L) (hL2 : L ≤ 2) : qa_Mi l y_MD_makesOfTwo b_MD_makesOfTwo 8 (some .int) 4 [.ref (qa_a y 22 0), .int (nI i), .int (nI s0), .int (nI a0), .int x] y v (fun r u => r = qm_m2 y w i s0 a0 x L ∧ ∀ c b f, ¬ (c = 43 ∧ 8 ≤ f) → u c b f = v c b f) := by
  refine qa_ofMi (plainFor_of_name (by decide)) (Nat.le_of_ble_eq_true rfl) ?_
  intro p e s m below meth c ls E hr hlocks hC hl
  have E : qa_E p m c b_MD_makesOfTwo 8 s _ "VotedFramesModel" y := E
  have F := E.1
  have hx := F.1
  have hb := F.2.1
  have hown : s.vm.findClass "VotedFramesModel" = some m.cls := F.2.2.2.1
  have hts := F.2.2.2.2
  have hn4 : 4 ≤ qa_n y := E.2.1.2.2.1
  have hn7 : qa_n y ≤ 7 := E.2.1.2.2.2.1
  have hl : lv_has ls 8 [(0, .ref (qa_a y 22 0)), (1, .int (nI i)), (2, .int (nI s0)), (3, .int (nI a0)), (4, .int x)] := hl
  have hmk := qm_mk_of hM hR
  have eB : qm_bear (qa_m y) (v 28 0 i) = nI L := by rw [qr_msk hR hi]; exact hB
  obtain ⟨G, hG⟩ : ∃ G : Nat → List Int32, G = qm_ls (fun b => qm_in (w 2 i 11) (nI b) && (!decide (b = i) && (!decide (b = s0) && !decide (b = a0)))) (qm_g y w a0 (qm_g y w s0 x a0) i) (fun b => qm_g y w b (qm_g y w a0 (qm_g y w s0 x a0) b) i) := ⟨_, rfl⟩
  have gs : ∀ k, (fun b => qm_in (w 2 i 11) (nI b) && (!decide (b = i) && (!decide (b = s0) && !decide (b = a0)))) k = true → G (k + 1) = G k ++ [(fun b => qm_g y w b (qm_g y w a0 (qm_g y w s0 x a0) b) i) k] := fun k h => by rw [hG]; exact qm_ls_t h
  have gn : ∀ k, (fun b => qm_in (w 2 i 11) (nI b) && (!decide (b = i) && (!decide (b = s0) && !decide (b = a0)))) k = false → G (k + 1) = G k := fun k h => by rw [hG]; exact qm_ls_f h
  have gi : (fun b => qm_in (w 2 i 11) (nI b) && (!decide (b = i) && (!decide (b = s0) && !decide (b = a0)))) i = false := by simp
  have gl : ∀ k, (G k).length ≤ if i < k then k else k + 1 := fun k => by rw [hG]; exact qm_ls_len gi k
  have gn1 : (G (qa_n y)).length ≤ qa_n y := by have := gl (qa_n y); rw [if_pos hi] at this; exact this
  have gk1 : ∀ k, k < qa_n y → (fun b => qm_in (w 2 i 11) (nI b) && (!decide (b = i) && (!decide (b = s0) && !decide (b = a0)))) k = true → (G k).length < qa_n y := by
    intro k hk h
    have h1 := gl (k + 1)
    rw [gs k h, List.length_append, List.length_cons, List.length_nil] at h1
    split at h1 <;> omega
  have g0 : G 0 = [(qm_g y w a0 (qm_g y w s0 x a0) i)] := by rw [hG]; rfl
  rcases (show L = 1 ∨ L = 2 by omega) with rfl | rfl
  · refine lv_aload_n hx hb d_MD_makesOfTwo_0 rfl (lv_at hl 0 rfl) ?_
    refine lv_iload_n hx hb d_MD_makesOfTwo_1 rfl (lv_at hl 1 rfl) ?_
    refine lv_iload_n hx hb d_MD_makesOfTwo_2 rfl (lv_at hl 2 rfl) ?_
    refine lv_iload_n hx hb d_MD_makesOfTwo_3 rfl (lv_at hl 3 rfl) ?_
    refine lv_iconst (v := -1) hx hb d_MD_makesOfTwo_4 (by decide) ?_
    refine lv_iload hx hb d_MD_makesOfTwo_5 (lv_at hl 4 rfl) ?_
    refine qa_pV (k := 22) (i := 0) (As := [.int (nI i), .int (nI s0), .int (nI a0), .int (-1), .int x]) E hC (c_MD_holds2 l y v i s0 a0 x hi hs0 ha0 w hR hF) Nat.one_pos rfl rfl k_MD_107 (qa_fitR (by decide) (by decide)) rfl hl.1 rfl (Nat.le_of_ble_eq_true rfl) d_MD_makesOfTwo_7 ?_
    refine lv_istore hx hb d_MD_makesOfTwo_10 hl (by decide) rfl (fun ls hl => ?_)
    have hl : lv_has ls 8 [(5, .int (qm_g y w a0 (qm_g y w s0 x a0) i)), (0, .ref (qa_a y 22 0)), (1, .int (nI i)), (2, .int (nI s0)), (3, .int (nI a0)), (4, .int x)] := hl
    refine lv_aload_n hx hb d_MD_makesOfTwo_12 rfl (lv_at hl 1 rfl) ?_
    refine lv_iload_n hx hb d_MD_makesOfTwo_13 rfl (lv_at hl 2 rfl) ?_
    refine qa_pV (k := 22) (i := 0) (As := [.int (nI i)]) E hC (c_MD_bears_i l y v i hi hmk) Nat.one_pos rfl rfl k_MD_111 (qa_fitR (by decide) (by decide)) rfl hl.1 rfl (Nat.le_of_ble_eq_true rfl) d_MD_makesOfTwo_14 ?_
    refine lv_iconst (v := 1) hx hb d_MD_makesOfTwo_17 (by decide) ?_
    refine lv_icmp_ne hx hb d_MD_makesOfTwo_18 rfl (fun h9 => absurd (by rw [eB]; rfl) h9) (fun _ => ?_)
    refine lv_iload hx hb d_MD_makesOfTwo_21 (lv_at hl 0 rfl) ?_
    exact qa_mret E hC hr hlocks ⟨rfl, fun _ _ _ _ => rfl⟩ d_MD_makesOfTwo_23
  · have em : qm_m2 y w i s0 a0 x 2 = qm_maj (G (qa_n y)) := by rw [hG]; rfl
    have loop : ∀ (d k : Nat) (u : qa_M) (H : Heap) (locs : List Loc) (ls : Array Slot), k + d = qa_n y → qa_C y u s H locs → ((∀ c b f, ¬ (c = 43 ∧ 8 ≤ f) → u c b f = v c b f) ∧ qm_hd (fun q => u 43 0 (8 + q)) (G k)) → lv_has ls 8 [(7, .int (nI k)), (6, .int (nI ((G k).length))), (5, .int (qm_g y w a0 (qm_g y w s0 x a0) i)), (0, .ref (qa_a y 22 0)), (1, .int (nI i)), (2, .int (nI s0)), (3, .int (nI a0)), (4, .int x)] → W p l e (qa_R 4) s m [.ref (qa_a y 22 0), .int (nI i), .int (nI s0), .int (nI a0), .int x].toArray below meth c H locs 0 0 (MQ below (va_Qi (fun r u => r = qm_m2 y w i s0 a0 x 2 ∧ ∀ c b f, ¬ (c = 43 ∧ 8 ≤ f) → u c b f = v c b f) (fun u t => qa_W y u t) (qa_A y)) [.ref (qa_a y 22 0), .int (nI i), .int (nI s0), .int (nI a0), .int x].toArray s 0 0 (qa_A y)) (F0 m 39 ls []) := by
      intro d
      induction d with
      | zero =>
        intro k u H locs ls hkd hC hI hl
        obtain rfl : qa_n y = k := by omega
        refine lv_iload hx hb d_MD_makesOfTwo_39 (lv_at hl 0 rfl) ?_
        refine lv_aload_n hx hb d_MD_makesOfTwo_41 rfl (lv_at hl 3 rfl) ?_
        refine qa_get (k := 22) (i := 0) (f := 0) (val := .int (nI (qa_n y))) E hC Nat.one_pos rfl rfl (by decide) f_MD_73 rfl rfl d_MD_makesOfTwo_42 ?_
        refine lv_icmp_ge hx hb d_MD_makesOfTwo_45 rfl (fun _ => ?_) (fun h9 => absurd (nI_le (Nat.le_refl _) (by omega)) h9)
        refine lv_aload_n hx hb d_MD_makesOfTwo_106 rfl (lv_at hl 3 rfl) ?_
        refine lv_bipush (v := 8) hx hb d_MD_makesOfTwo_107 (by decide) ?_
        refine lv_iload hx hb d_MD_makesOfTwo_109 (lv_at hl 1 rfl) ?_
        refine qa_pV (k := 22) (i := 0) (As := [.int 8, .int (nI ((G (qa_n y)).length))]) E hC (c_MD_majority8 l y u (G (qa_n y)) hI.2 (by omega)) Nat.one_pos rfl rfl k_MD_115 (qa_fitR (by decide) (by decide)) rfl hl.1 rfl (Nat.le_of_ble_eq_true rfl) d_MD_makesOfTwo_111 ?_
        exact qa_mret E hC hr hlocks ⟨em.symm, hI.1⟩ d_MD_makesOfTwo_114
      | succ d ih =>
        intro k u H locs ls hkd hC hI hl
        have hk : k < qa_n y := by omega
        have hRu : qm_RM (qa_n y) w u := qm_RM_n hR (fun k i f _ _ _ h43 _ => hI.1 k i f (fun z => h43 z.1))
        refine lv_iload hx hb d_MD_makesOfTwo_39 (lv_at hl 0 rfl) ?_
        refine lv_aload_n hx hb d_MD_makesOfTwo_41 rfl (lv_at hl 3 rfl) ?_
        refine qa_get (k := 22) (i := 0) (f := 0) (val := .int (nI (qa_n y))) E hC Nat.one_pos rfl rfl (by decide) f_MD_73 rfl rfl d_MD_makesOfTwo_42 ?_
        refine lv_icmp_ge hx hb d_MD_makesOfTwo_45 rfl (fun h9 => absurd h9 (nI_ge hk (by omega))) (fun _ => ?_)
        refine lv_aload_n hx hb d_MD_makesOfTwo_48 rfl (lv_at hl 3 rfl) ?_
        refine lv_iload_n hx hb d_MD_makesOfTwo_49 rfl (lv_at hl 4 rfl) ?_
        refine lv_iload hx hb d_MD_makesOfTwo_50 (lv_at hl 0 rfl) ?_
        refine qa_pV (k := 22) (i := 0) (As := [.int (nI i), .int (nI k)]) E hC (c_MD_member l y u i (nI k) hi) Nat.one_pos rfl rfl k_MD_90 (qa_fitR (by decide) (by decide)) rfl hl.1 rfl (Nat.le_of_ble_eq_true rfl) d_MD_makesOfTwo_52 ?_
        refine lv_if_eq hx hb d_MD_makesOfTwo_55 rfl (fun h55 => ?_) (fun h55 => ?_)
        · refine lv_iinc (v := nI (k + 1)) hx hb d_MD_makesOfTwo_100 hl (k := 0) rfl (nI_1 k) (by decide) rfl (fun ls hl => ?_)
          have hl : lv_has ls 8 [(7, .int (nI (k + 1))), (6, .int (nI ((G k).length))), (5, .int (qm_g y w a0 (qm_g y w s0 x a0) i)), (0, .ref (qa_a y 22 0)), (1, .int (nI i)), (2, .int (nI s0)), (3, .int (nI a0)), (4, .int x)] := hl
          refine lv_goto hx hb d_MD_makesOfTwo_103 rfl ?_
          have e8 := gn k (by have z4 := qb_e0 h55; rw [hI.1 28 0 i (by omega), qr_msk hR hi] at z4; simp [z4])
          refine ih (k + 1) u H locs ls (by omega) hC ⟨hI.1, by rw [e8]; exact hI.2⟩ ?_
          rw [e8]
          exact lv_sub hl [0, 1, 2, 3, 4, 5, 6, 7] rfl
        · refine lv_iload hx hb d_MD_makesOfTwo_58 (lv_at hl 0 rfl) ?_
          refine lv_iload_n hx hb d_MD_makesOfTwo_60 rfl (lv_at hl 4 rfl) ?_
          refine lv_icmp_eq hx hb d_MD_makesOfTwo_61 rfl (fun h61 => ?_) (fun h61 => ?_)
          · refine lv_iinc (v := nI (k + 1)) hx hb d_MD_makesOfTwo_100 hl (k := 0) rfl (nI_1 k) (by decide) rfl (fun ls hl => ?_)
            have hl : lv_has ls 8 [(7, .int (nI (k + 1))), (6, .int (nI ((G k).length))), (5, .int (qm_g y w a0 (qm_g y w s0 x a0) i)), (0, .ref (qa_a y 22 0)), (1, .int (nI i)), (2, .int (nI s0)), (3, .int (nI a0)), (4, .int x)] := hl
            refine lv_goto hx hb d_MD_makesOfTwo_103 rfl ?_
            have e8 := gn k (by have z1 := (nI_eq (by omega) (by omega)).mp h61; simp [z1])
            refine ih (k + 1) u H locs ls (by omega) hC ⟨hI.1, by rw [e8]; exact hI.2⟩ ?_
            rw [e8]
            exact lv_sub hl [0, 1, 2, 3, 4, 5, 6, 7] rfl
          · refine lv_iload hx hb d_MD_makesOfTwo_64 (lv_at hl 0 rfl) ?_
            refine lv_iload_n hx hb d_MD_makesOfTwo_66 rfl (lv_at hl 5 rfl) ?_
            refine lv_icmp_eq hx hb d_MD_makesOfTwo_67 rfl (fun h67 => ?_) (fun h67 => ?_)
            · refine lv_iinc (v := nI (k + 1)) hx hb d_MD_makesOfTwo_100 hl (k := 0) rfl (nI_1 k) (by decide) rfl (fun ls hl => ?_)
              have hl : lv_has ls 8 [(7, .int (nI (k + 1))), (6, .int (nI ((G k).length))), (5, .int (qm_g y w a0 (qm_g y w s0 x a0) i)), (0, .ref (qa_a y 22 0)), (1, .int (nI i)), (2, .int (nI s0)), (3, .int (nI a0)), (4, .int x)] := hl
              refine lv_goto hx hb d_MD_makesOfTwo_103 rfl ?_
              have e8 := gn k (by have z1 := (nI_eq (by omega) (by omega)).mp h67; simp [z1])
              refine ih (k + 1) u H locs ls (by omega) hC ⟨hI.1, by rw [e8]; exact hI.2⟩ ?_
              rw [e8]
              exact lv_sub hl [0, 1, 2, 3, 4, 5, 6, 7] rfl
            · refine lv_iload hx hb d_MD_makesOfTwo_70 (lv_at hl 0 rfl) ?_
              refine lv_iload_n hx hb d_MD_makesOfTwo_72 rfl (lv_at hl 6 rfl) ?_
              refine lv_icmp_eq hx hb d_MD_makesOfTwo_73 rfl (fun h73 => ?_) (fun h73 => ?_)
              · refine lv_iinc (v := nI (k + 1)) hx hb d_MD_makesOfTwo_100 hl (k := 0) rfl (nI_1 k) (by decide) rfl (fun ls hl => ?_)
                have hl : lv_has ls 8 [(7, .int (nI (k + 1))), (6, .int (nI ((G k).length))), (5, .int (qm_g y w a0 (qm_g y w s0 x a0) i)), (0, .ref (qa_a y 22 0)), (1, .int (nI i)), (2, .int (nI s0)), (3, .int (nI a0)), (4, .int x)] := hl
                refine lv_goto hx hb d_MD_makesOfTwo_103 rfl ?_
                have e8 := gn k (by have z1 := (nI_eq (by omega) (by omega)).mp h73; simp [z1])
                refine ih (k + 1) u H locs ls (by omega) hC ⟨hI.1, by rw [e8]; exact hI.2⟩ ?_
                rw [e8]
                exact lv_sub hl [0, 1, 2, 3, 4, 5, 6, 7] rfl
              · have hkr : (fun b => qm_in (w 2 i 11) (nI b) && (!decide (b = i) && (!decide (b = s0) && !decide (b = a0)))) k = true := by
                  have z1 : ¬ k = i := fun q => h61 (by rw [q])
                  have z2 : ¬ k = s0 := fun q => h67 (by rw [q])
                  have z3 : ¬ k = a0 := fun q => h73 (by rw [q])
                  have z4 := qb_n0 h55
                  rw [hI.1 28 0 i (by omega), qr_msk hR hi] at z4
                  simp [z1, z2, z3, z4]
                have hkl := gk1 k hk hkr
                refine lv_aload_n hx hb d_MD_makesOfTwo_76 rfl (lv_at hl 3 rfl) ?_
                refine qa_get (k := 22) (i := 0) (f := 26) (val := .ref (qa_a y 43 0)) E hC Nat.one_pos rfl rfl (by decide) f_MD_70 rfl rfl d_MD_makesOfTwo_77 ?_
                refine lv_bipush (v := 8) hx hb d_MD_makesOfTwo_80 (by decide) ?_
                refine lv_iload hx hb d_MD_makesOfTwo_82 (lv_at hl 1 rfl) ?_
                refine lv_iadd hx hb d_MD_makesOfTwo_84 ?_
                refine lv_aload_n hx hb d_MD_makesOfTwo_85 rfl (lv_at hl 3 rfl) ?_
                refine lv_iload_n hx hb d_MD_makesOfTwo_86 rfl (lv_at hl 4 rfl) ?_
                refine lv_iload_n hx hb d_MD_makesOfTwo_87 rfl (lv_at hl 5 rfl) ?_
                refine lv_iload_n hx hb d_MD_makesOfTwo_88 rfl (lv_at hl 6 rfl) ?_
                refine lv_iload hx hb d_MD_makesOfTwo_89 (lv_at hl 0 rfl) ?_
                refine lv_iload hx hb d_MD_makesOfTwo_91 (lv_at hl 7 rfl) ?_
                refine qa_pV (k := 22) (i := 0) (As := [.int (nI i), .int (nI s0), .int (nI a0), .int (nI k), .int x]) E hC (c_MD_holds3 l y u i s0 a0 k x hi hs0 ha0 hk w hRu hF) Nat.one_pos rfl rfl k_MD_107 (qa_fitR (by decide) (by decide)) rfl hl.1 rfl (Nat.le_of_ble_eq_true rfl) d_MD_makesOfTwo_93 ?_
                refine qa_ist (k := 43) (i := 0) (j := (8 + ((G k).length))) E hC Nat.one_pos rfl rfl (qn_add rfl rfl) (show 8 + (G k).length < 16 by omega) d_MD_makesOfTwo_96 (fun H locs hC => ?_)
                refine lv_iinc (v := nI (((G k).length) + 1)) hx hb d_MD_makesOfTwo_97 hl (k := 1) rfl (nI_1 ((G k).length)) (by decide) rfl (fun ls hl => ?_)
                have hl : lv_has ls 8 [(6, .int (nI (((G k).length) + 1))), (7, .int (nI k)), (5, .int (qm_g y w a0 (qm_g y w s0 x a0) i)), (0, .ref (qa_a y 22 0)), (1, .int (nI i)), (2, .int (nI s0)), (3, .int (nI a0)), (4, .int x)] := hl
                refine lv_iinc (v := nI (k + 1)) hx hb d_MD_makesOfTwo_100 hl (k := 1) rfl (nI_1 k) (by decide) rfl (fun ls hl => ?_)
                have hl : lv_has ls 8 [(7, .int (nI (k + 1))), (6, .int (nI (((G k).length) + 1))), (5, .int (qm_g y w a0 (qm_g y w s0 x a0) i)), (0, .ref (qa_a y 22 0)), (1, .int (nI i)), (2, .int (nI s0)), (3, .int (nI a0)), (4, .int x)] := hl
                refine lv_goto hx hb d_MD_makesOfTwo_103 rfl ?_
                have e8 := gs k hkr
                refine ih (k + 1) _ H locs ls (by omega) hC ⟨fun c b f h => ?_, ?_⟩ ?_
                · rw [qa_up_x (fun z => h ⟨z.1, by omega⟩)]; exact hI.1 c b f h
                · rw [e8]
                  refine qm_hd_push hI.2 ?_ (fun q hq => qa_up_f (by omega))
                  exact qa_up_s
                · rw [e8, show (G k ++ [(fun b => qm_g y w b (qm_g y w a0 (qm_g y w s0 x a0) b) i) k]).length = (G k).length + 1 by simp]
                  exact lv_sub hl [0, 1, 2, 3, 4, 5, 6, 7] rfl
    refine lv_aload_n hx hb d_MD_makesOfTwo_0 rfl (lv_at hl 0 rfl) ?_
    refine lv_iload_n hx hb d_MD_makesOfTwo_1 rfl (lv_at hl 1 rfl) ?_
    refine lv_iload_n hx hb d_MD_makesOfTwo_2 rfl (lv_at hl 2 rfl) ?_
    refine lv_iload_n hx hb d_MD_makesOfTwo_3 rfl (lv_at hl 3 rfl) ?_
    refine lv_iconst (v := -1) hx hb d_MD_makesOfTwo_4 (by decide) ?_
    refine lv_iload hx hb d_MD_makesOfTwo_5 (lv_at hl 4 rfl) ?_
    refine qa_pV (k := 22) (i := 0) (As := [.int (nI i), .int (nI s0), .int (nI a0), .int (-1), .int x]) E hC (c_MD_holds2 l y v i s0 a0 x hi hs0 ha0 w hR hF) Nat.one_pos rfl rfl k_MD_107 (qa_fitR (by decide) (by decide)) rfl hl.1 rfl (Nat.le_of_ble_eq_true rfl) d_MD_makesOfTwo_7 ?_
    refine lv_istore hx hb d_MD_makesOfTwo_10 hl (by decide) rfl (fun ls hl => ?_)
    have hl : lv_has ls 8 [(5, .int (qm_g y w a0 (qm_g y w s0 x a0) i)), (0, .ref (qa_a y 22 0)), (1, .int (nI i)), (2, .int (nI s0)), (3, .int (nI a0)), (4, .int x)] := hl
    refine lv_aload_n hx hb d_MD_makesOfTwo_12 rfl (lv_at hl 1 rfl) ?_
    refine lv_iload_n hx hb d_MD_makesOfTwo_13 rfl (lv_at hl 2 rfl) ?_
    refine qa_pV (k := 22) (i := 0) (As := [.int (nI i)]) E hC (c_MD_bears_i l y v i hi hmk) Nat.one_pos rfl rfl k_MD_111 (qa_fitR (by decide) (by decide)) rfl hl.1 rfl (Nat.le_of_ble_eq_true rfl) d_MD_makesOfTwo_14 ?_
    refine lv_iconst (v := 1) hx hb d_MD_makesOfTwo_17 (by decide) ?_
    refine lv_icmp_ne hx hb d_MD_makesOfTwo_18 rfl (fun _ => ?_) (fun h9 => absurd h9 (by rw [eB]; decide))
    refine lv_aload_n hx hb d_MD_makesOfTwo_24 rfl (lv_at hl 1 rfl) ?_
    refine qa_get (k := 22) (i := 0) (f := 26) (val := .ref (qa_a y 43 0)) E hC Nat.one_pos rfl rfl (by decide) f_MD_70 rfl rfl d_MD_makesOfTwo_25 ?_
    refine lv_bipush (v := 8) hx hb d_MD_makesOfTwo_28 (by decide) ?_
    refine lv_iload hx hb d_MD_makesOfTwo_30 (lv_at hl 0 rfl) ?_
    refine qa_ist (k := 43) (i := 0) (j := 8) E hC Nat.one_pos rfl rfl rfl (show 8 < 16 by decide) d_MD_makesOfTwo_32 (fun H locs hC => ?_)
    refine lv_iconst (v := 1) hx hb d_MD_makesOfTwo_33 (by decide) ?_
    refine lv_istore hx hb d_MD_makesOfTwo_34 hl (by decide) rfl (fun ls hl => ?_)
    have hl : lv_has ls 8 [(6, .int 1), (5, .int (qm_g y w a0 (qm_g y w s0 x a0) i)), (0, .ref (qa_a y 22 0)), (1, .int (nI i)), (2, .int (nI s0)), (3, .int (nI a0)), (4, .int x)] := hl
    refine lv_iconst (v := 0) hx hb d_MD_makesOfTwo_36 (by decide) ?_
    refine lv_istore hx hb d_MD_makesOfTwo_37 hl (by decide) rfl (fun ls hl => ?_)
    have hl : lv_has ls 8 [(7, .int 0), (6, .int 1), (5, .int (qm_g y w a0 (qm_g y w s0 x a0) i)), (0, .ref (qa_a y 22 0)), (1, .int (nI i)), (2, .int (nI s0)), (3, .int (nI a0)), (4, .int x)] := hl
    refine loop (qa_n y) 0 _ H locs ls (by omega) hC ⟨fun c b f h => qa_up_x (fun z => h ⟨z.1, by omega⟩), ?_⟩ ?_
    · rw [g0]
      intro q hq
      obtain rfl : q = 0 := by simp at hq; exact hq
      exact qa_up_s
    · rw [g0]
      exact lv_sub hl [0, 1, 2, 3, 4, 5, 6, 7] rfl

set_option maxHeartbeats 4000000 in
set_option maxRecDepth 100000 in
theorem c_MD_makesOfOne (l : Launch) (y : qa_L) (v : qa_M) (i s0 L : Nat) (x : Int32) (hi : i < qa_n y) (hs0 : s0 < qa_n y) (w : qa_M) (hR : qm_RM (qa_n y) w v) (hF : qm_fok w) (hB : qm_bear (qa_m y) (w 2 i 11) = nI L) (hM : qm_mok y w) (hL2 : L ≤ 2) : qa_Mi l y_MD_makesOfOne b_MD_makesOfOne 7 (some .int) 5 [.ref (qa_a y 22 0), .int (nI i), .int (nI s0), .int x] y v (fun r u => r = qm_ag (qa_n y) (qm_g y w) (w 2 i 11) s0 x i L ∧ ∀ c b f, c ≠ 43 → u c b f = v c b f) := by
  refine qa_ofMi (plainFor_of_name (by decide)) (Nat.le_of_ble_eq_true rfl) ?_
  intro p e s m below meth c ls E hr hlocks hC hl
  have E : qa_E p m c b_MD_makesOfOne 7 s _ "VotedFramesModel" y := E
  have F := E.1
  have hx := F.1
  have hb := F.2.1
  have hown : s.vm.findClass "VotedFramesModel" = some m.cls := F.2.2.2.1
  have hts := F.2.2.2.2
  have hn4 : 4 ≤ qa_n y := E.2.1.2.2.1
  have hn7 : qa_n y ≤ 7 := E.2.1.2.2.2.1
  have hl : lv_has ls 7 [(0, .ref (qa_a y 22 0)), (1, .int (nI i)), (2, .int (nI s0)), (3, .int x)] := hl
  have hmk := qm_mk_of hM hR
  have eB : qm_bear (qa_m y) (v 28 0 i) = nI L := by rw [qr_msk hR hi]; exact hB
  obtain ⟨G, hG⟩ : ∃ G : Nat → List Int32, G = qm_ls (fun b => qm_in (w 2 i 11) (nI b) && (!decide (b = i) && !decide (b = s0))) (qm_g y w s0 x i) (fun b => qm_m2 y w i s0 b x L) := ⟨_, rfl⟩
  have gs : ∀ k, (fun b => qm_in (w 2 i 11) (nI b) && (!decide (b = i) && !decide (b = s0))) k = true → G (k + 1) = G k ++ [(fun b => qm_m2 y w i s0 b x L) k] := fun k h => by rw [hG]; exact qm_ls_t h
  have gn : ∀ k, (fun b => qm_in (w 2 i 11) (nI b) && (!decide (b = i) && !decide (b = s0))) k = false → G (k + 1) = G k := fun k h => by rw [hG]; exact qm_ls_f h
  have gi : (fun b => qm_in (w 2 i 11) (nI b) && (!decide (b = i) && !decide (b = s0))) i = false := by simp
  have gl : ∀ k, (G k).length ≤ if i < k then k else k + 1 := fun k => by rw [hG]; exact qm_ls_len gi k
  have gn1 : (G (qa_n y)).length ≤ qa_n y := by have := gl (qa_n y); rw [if_pos hi] at this; exact this
  have gk1 : ∀ k, k < qa_n y → (fun b => qm_in (w 2 i 11) (nI b) && (!decide (b = i) && !decide (b = s0))) k = true → (G k).length < qa_n y := by
    intro k hk h
    have h1 := gl (k + 1)
    rw [gs k h, List.length_append, List.length_cons, List.length_nil] at h1
    split at h1 <;> omega
  have g0 : G 0 = [(qm_g y w s0 x i)] := by rw [hG]; rfl
  by_cases hL0 : L = 0
  · subst hL0
    refine lv_aload_n hx hb d_MD_makesOfOne_0 rfl (lv_at hl 0 rfl) ?_
    refine lv_iload_n hx hb d_MD_makesOfOne_1 rfl (lv_at hl 1 rfl) ?_
    refine lv_iload_n hx hb d_MD_makesOfOne_2 rfl (lv_at hl 2 rfl) ?_
    refine lv_iconst (v := -1) hx hb d_MD_makesOfOne_3 (by decide) ?_
    refine lv_iconst (v := -1) hx hb d_MD_makesOfOne_4 (by decide) ?_
    refine lv_iload_n hx hb d_MD_makesOfOne_5 rfl (lv_at hl 3 rfl) ?_
    refine qa_pV (k := 22) (i := 0) (As := [.int (nI i), .int (nI s0), .int (-1), .int (-1), .int x]) E hC (c_MD_holds1 l y v i s0 x hi hs0 w hR hF) Nat.one_pos rfl rfl k_MD_107 (qa_fitR (by decide) (by decide)) rfl hl.1 rfl (Nat.le_of_ble_eq_true rfl) d_MD_makesOfOne_6 ?_
    refine lv_istore hx hb d_MD_makesOfOne_9 hl (by decide) rfl (fun ls hl => ?_)
    have hl : lv_has ls 7 [(4, .int (qm_g y w s0 x i)), (0, .ref (qa_a y 22 0)), (1, .int (nI i)), (2, .int (nI s0)), (3, .int x)] := hl
    refine lv_aload_n hx hb d_MD_makesOfOne_11 rfl (lv_at hl 1 rfl) ?_
    refine lv_iload_n hx hb d_MD_makesOfOne_12 rfl (lv_at hl 2 rfl) ?_
    refine qa_pV (k := 22) (i := 0) (As := [.int (nI i)]) E hC (c_MD_bears_i l y v i hi hmk) Nat.one_pos rfl rfl k_MD_111 (qa_fitR (by decide) (by decide)) rfl hl.1 rfl (Nat.le_of_ble_eq_true rfl) d_MD_makesOfOne_13 ?_
    refine lv_if_ne hx hb d_MD_makesOfOne_16 rfl (fun h9 => absurd eB h9) (fun _ => ?_)
    refine lv_iload hx hb d_MD_makesOfOne_19 (lv_at hl 0 rfl) ?_
    exact qa_mret E hC hr hlocks ⟨rfl, fun _ _ _ _ => rfl⟩ d_MD_makesOfOne_21
  · have hL1 : 1 ≤ L := by omega
    have em : qm_ag (qa_n y) (qm_g y w) (w 2 i 11) s0 x i L = qm_maj (G (qa_n y)) := by
      rw [hG]
      rcases (show L = 1 ∨ L = 2 by omega) with rfl | rfl <;> rfl
    have loop : ∀ (d k : Nat) (u : qa_M) (H : Heap) (locs : List Loc) (ls : Array Slot), k + d = qa_n y → qa_C y u s H locs → ((∀ c b f, c ≠ 43 → u c b f = v c b f) ∧ qm_hd (fun q => u 43 0 (0 + q)) (G k)) → lv_has ls 7 [(6, .int (nI k)), (5, .int (nI ((G k).length))), (4, .int (qm_g y w s0 x i)), (0, .ref (qa_a y 22 0)), (1, .int (nI i)), (2, .int (nI s0)), (3, .int x)] → W p l e (qa_R 5) s m [.ref (qa_a y 22 0), .int (nI i), .int (nI s0), .int x].toArray below meth c H locs 0 0 (MQ below (va_Qi (fun r u => r = qm_ag (qa_n y) (qm_g y w) (w 2 i 11) s0 x i L ∧ ∀ c b f, c ≠ 43 → u c b f = v c b f) (fun u t => qa_W y u t) (qa_A y)) [.ref (qa_a y 22 0), .int (nI i), .int (nI s0), .int x].toArray s 0 0 (qa_A y)) (F0 m 36 ls []) := by
      intro d
      induction d with
      | zero =>
        intro k u H locs ls hkd hC hI hl
        obtain rfl : qa_n y = k := by omega
        refine lv_iload hx hb d_MD_makesOfOne_36 (lv_at hl 0 rfl) ?_
        refine lv_aload_n hx hb d_MD_makesOfOne_38 rfl (lv_at hl 3 rfl) ?_
        refine qa_get (k := 22) (i := 0) (f := 0) (val := .int (nI (qa_n y))) E hC Nat.one_pos rfl rfl (by decide) f_MD_73 rfl rfl d_MD_makesOfOne_39 ?_
        refine lv_icmp_ge hx hb d_MD_makesOfOne_42 rfl (fun _ => ?_) (fun h9 => absurd (nI_le (Nat.le_refl _) (by omega)) h9)
        refine lv_aload_n hx hb d_MD_makesOfOne_92 rfl (lv_at hl 3 rfl) ?_
        refine lv_iconst (v := 0) hx hb d_MD_makesOfOne_93 (by decide) ?_
        refine lv_iload hx hb d_MD_makesOfOne_94 (lv_at hl 1 rfl) ?_
        refine qa_pV (k := 22) (i := 0) (As := [.int 0, .int (nI ((G (qa_n y)).length))]) E hC (c_MD_majority0 l y u (G (qa_n y)) hI.2 (by omega)) Nat.one_pos rfl rfl k_MD_115 (qa_fitR (by decide) (by decide)) rfl hl.1 rfl (Nat.le_of_ble_eq_true rfl) d_MD_makesOfOne_96 ?_
        exact qa_mret E hC hr hlocks ⟨em.symm, hI.1⟩ d_MD_makesOfOne_99
      | succ d ih =>
        intro k u H locs ls hkd hC hI hl
        have hk : k < qa_n y := by omega
        have hRu : qm_RM (qa_n y) w u := qm_RM_n hR (fun k i f _ _ _ h43 _ => hI.1 k i f h43)
        refine lv_iload hx hb d_MD_makesOfOne_36 (lv_at hl 0 rfl) ?_
        refine lv_aload_n hx hb d_MD_makesOfOne_38 rfl (lv_at hl 3 rfl) ?_
        refine qa_get (k := 22) (i := 0) (f := 0) (val := .int (nI (qa_n y))) E hC Nat.one_pos rfl rfl (by decide) f_MD_73 rfl rfl d_MD_makesOfOne_39 ?_
        refine lv_icmp_ge hx hb d_MD_makesOfOne_42 rfl (fun h9 => absurd h9 (nI_ge hk (by omega))) (fun _ => ?_)
        refine lv_aload_n hx hb d_MD_makesOfOne_45 rfl (lv_at hl 3 rfl) ?_
        refine lv_iload_n hx hb d_MD_makesOfOne_46 rfl (lv_at hl 4 rfl) ?_
        refine lv_iload hx hb d_MD_makesOfOne_47 (lv_at hl 0 rfl) ?_
        refine qa_pV (k := 22) (i := 0) (As := [.int (nI i), .int (nI k)]) E hC (c_MD_member l y u i (nI k) hi) Nat.one_pos rfl rfl k_MD_90 (qa_fitR (by decide) (by decide)) rfl hl.1 rfl (Nat.le_of_ble_eq_true rfl) d_MD_makesOfOne_49 ?_
        refine lv_if_eq hx hb d_MD_makesOfOne_52 rfl (fun h52 => ?_) (fun h52 => ?_)
        · refine lv_iinc (v := nI (k + 1)) hx hb d_MD_makesOfOne_86 hl (k := 0) rfl (nI_1 k) (by decide) rfl (fun ls hl => ?_)
          have hl : lv_has ls 7 [(6, .int (nI (k + 1))), (5, .int (nI ((G k).length))), (4, .int (qm_g y w s0 x i)), (0, .ref (qa_a y 22 0)), (1, .int (nI i)), (2, .int (nI s0)), (3, .int x)] := hl
          refine lv_goto hx hb d_MD_makesOfOne_89 rfl ?_
          have e8 := gn k (by have z4 := qb_e0 h52; rw [hI.1 28 0 i (by decide), qr_msk hR hi] at z4; simp [z4])
          refine ih (k + 1) u H locs ls (by omega) hC ⟨hI.1, by rw [e8]; exact hI.2⟩ ?_
          rw [e8]
          exact lv_sub hl [0, 1, 2, 3, 4, 5, 6] rfl
        · refine lv_iload hx hb d_MD_makesOfOne_55 (lv_at hl 0 rfl) ?_
          refine lv_iload_n hx hb d_MD_makesOfOne_57 rfl (lv_at hl 4 rfl) ?_
          refine lv_icmp_eq hx hb d_MD_makesOfOne_58 rfl (fun h58 => ?_) (fun h58 => ?_)
          · refine lv_iinc (v := nI (k + 1)) hx hb d_MD_makesOfOne_86 hl (k := 0) rfl (nI_1 k) (by decide) rfl (fun ls hl => ?_)
            have hl : lv_has ls 7 [(6, .int (nI (k + 1))), (5, .int (nI ((G k).length))), (4, .int (qm_g y w s0 x i)), (0, .ref (qa_a y 22 0)), (1, .int (nI i)), (2, .int (nI s0)), (3, .int x)] := hl
            refine lv_goto hx hb d_MD_makesOfOne_89 rfl ?_
            have e8 := gn k (by have z1 := (nI_eq (by omega) (by omega)).mp h58; simp [z1])
            refine ih (k + 1) u H locs ls (by omega) hC ⟨hI.1, by rw [e8]; exact hI.2⟩ ?_
            rw [e8]
            exact lv_sub hl [0, 1, 2, 3, 4, 5, 6] rfl
          · refine lv_iload hx hb d_MD_makesOfOne_61 (lv_at hl 0 rfl) ?_
            refine lv_iload_n hx hb d_MD_makesOfOne_63 rfl (lv_at hl 5 rfl) ?_
            refine lv_icmp_eq hx hb d_MD_makesOfOne_64 rfl (fun h64 => ?_) (fun h64 => ?_)
            · refine lv_iinc (v := nI (k + 1)) hx hb d_MD_makesOfOne_86 hl (k := 0) rfl (nI_1 k) (by decide) rfl (fun ls hl => ?_)
              have hl : lv_has ls 7 [(6, .int (nI (k + 1))), (5, .int (nI ((G k).length))), (4, .int (qm_g y w s0 x i)), (0, .ref (qa_a y 22 0)), (1, .int (nI i)), (2, .int (nI s0)), (3, .int x)] := hl
              refine lv_goto hx hb d_MD_makesOfOne_89 rfl ?_
              have e8 := gn k (by have z1 := (nI_eq (by omega) (by omega)).mp h64; simp [z1])
              refine ih (k + 1) u H locs ls (by omega) hC ⟨hI.1, by rw [e8]; exact hI.2⟩ ?_
              rw [e8]
              exact lv_sub hl [0, 1, 2, 3, 4, 5, 6] rfl
            · have hkr : (fun b => qm_in (w 2 i 11) (nI b) && (!decide (b = i) && !decide (b = s0))) k = true := by
                have z1 : ¬ k = i := fun q => h58 (by rw [q])
                have z2 : ¬ k = s0 := fun q => h64 (by rw [q])
                have z4 := qb_n0 h52
                rw [hI.1 28 0 i (by decide), qr_msk hR hi] at z4
                simp [z1, z2, z4]
              have hkl := gk1 k hk hkr
              refine lv_aload_n hx hb d_MD_makesOfOne_67 rfl (lv_at hl 3 rfl) ?_
              refine qa_get (k := 22) (i := 0) (f := 26) (val := .ref (qa_a y 43 0)) E hC Nat.one_pos rfl rfl (by decide) f_MD_70 rfl rfl d_MD_makesOfOne_68 ?_
              refine lv_iload hx hb d_MD_makesOfOne_71 (lv_at hl 1 rfl) ?_
              refine lv_aload_n hx hb d_MD_makesOfOne_73 rfl (lv_at hl 3 rfl) ?_
              refine lv_iload_n hx hb d_MD_makesOfOne_74 rfl (lv_at hl 4 rfl) ?_
              refine lv_iload_n hx hb d_MD_makesOfOne_75 rfl (lv_at hl 5 rfl) ?_
              refine lv_iload hx hb d_MD_makesOfOne_76 (lv_at hl 0 rfl) ?_
              refine lv_iload_n hx hb d_MD_makesOfOne_78 rfl (lv_at hl 6 rfl) ?_
              refine qa_mV (k := 22) (i := 0) (As := [.int (nI i), .int (nI s0), .int (nI k), .int x]) E hC (c_MD_makesOfTwo l y u i s0 k L x hi hs0 hk w hRu hF hB hM hL1 hL2) Nat.one_pos rfl rfl k_MD_119 (qa_fitR (by decide) (by decide)) rfl hl.1 rfl (Nat.le_of_ble_eq_true rfl) d_MD_makesOfOne_79 (fun r1 u1 H locs hp1 hC => ?_)
              refine qa_ist (k := 43) (i := 0) (j := ((G k).length)) E hC Nat.one_pos rfl rfl rfl (show (G k).length < 16 by omega) d_MD_makesOfOne_82 (fun H locs hC => ?_)
              refine lv_iinc (v := nI (((G k).length) + 1)) hx hb d_MD_makesOfOne_83 hl (k := 1) rfl (nI_1 ((G k).length)) (by decide) rfl (fun ls hl => ?_)
              have hl : lv_has ls 7 [(5, .int (nI (((G k).length) + 1))), (6, .int (nI k)), (4, .int (qm_g y w s0 x i)), (0, .ref (qa_a y 22 0)), (1, .int (nI i)), (2, .int (nI s0)), (3, .int x)] := hl
              refine lv_iinc (v := nI (k + 1)) hx hb d_MD_makesOfOne_86 hl (k := 1) rfl (nI_1 k) (by decide) rfl (fun ls hl => ?_)
              have hl : lv_has ls 7 [(6, .int (nI (k + 1))), (5, .int (nI (((G k).length) + 1))), (4, .int (qm_g y w s0 x i)), (0, .ref (qa_a y 22 0)), (1, .int (nI i)), (2, .int (nI s0)), (3, .int x)] := hl
              refine lv_goto hx hb d_MD_makesOfOne_89 rfl ?_
              have e8 := gs k hkr
              refine ih (k + 1) _ H locs ls (by omega) hC ⟨fun c b f h => ?_, ?_⟩ ?_
              · rw [qa_up_k h, hp1.2 c b f (fun z => h z.1)]; exact hI.1 c b f h
              · rw [e8]
                refine qm_hd_push hI.2 ?_ (fun q hq => ?_)
                · show qa_up u1 43 0 (G k).length r1 43 0 (0 + (G k).length) = _
                  rw [Nat.zero_add, qa_up_s, hp1.1]
                · show qa_up u1 43 0 (G k).length r1 43 0 (0 + q) = _
                  rw [Nat.zero_add, qa_up_f (by omega), hp1.2 43 0 q (by omega)]
              · rw [e8, show (G k ++ [(fun b => qm_m2 y w i s0 b x L) k]).length = (G k).length + 1 by simp]
                exact lv_sub hl [0, 1, 2, 3, 4, 5, 6] rfl
    refine lv_aload_n hx hb d_MD_makesOfOne_0 rfl (lv_at hl 0 rfl) ?_
    refine lv_iload_n hx hb d_MD_makesOfOne_1 rfl (lv_at hl 1 rfl) ?_
    refine lv_iload_n hx hb d_MD_makesOfOne_2 rfl (lv_at hl 2 rfl) ?_
    refine lv_iconst (v := -1) hx hb d_MD_makesOfOne_3 (by decide) ?_
    refine lv_iconst (v := -1) hx hb d_MD_makesOfOne_4 (by decide) ?_
    refine lv_iload_n hx hb d_MD_makesOfOne_5 rfl (lv_at hl 3 rfl) ?_
    refine qa_pV (k := 22) (i := 0) (As := [.int (nI i), .int (nI s0), .int (-1), .int (-1), .int x]) E hC (c_MD_holds1 l y v i s0 x hi hs0 w hR hF) Nat.one_pos rfl rfl k_MD_107 (qa_fitR (by decide) (by decide)) rfl hl.1 rfl (Nat.le_of_ble_eq_true rfl) d_MD_makesOfOne_6 ?_
    refine lv_istore hx hb d_MD_makesOfOne_9 hl (by decide) rfl (fun ls hl => ?_)
    have hl : lv_has ls 7 [(4, .int (qm_g y w s0 x i)), (0, .ref (qa_a y 22 0)), (1, .int (nI i)), (2, .int (nI s0)), (3, .int x)] := hl
    refine lv_aload_n hx hb d_MD_makesOfOne_11 rfl (lv_at hl 1 rfl) ?_
    refine lv_iload_n hx hb d_MD_makesOfOne_12 rfl (lv_at hl 2 rfl) ?_
    refine qa_pV (k := 22) (i := 0) (As := [.int (nI i)]) E hC (c_MD_bears_i l y v i hi hmk) Nat.one_pos rfl rfl k_MD_111 (qa_fitR (by decide) (by decide)) rfl hl.1 rfl (Nat.le_of_ble_eq_true rfl) d_MD_makesOfOne_13 ?_
    refine lv_if_ne hx hb d_MD_makesOfOne_16 rfl (fun _ => ?_) (fun h9 => absurd h9 (by rw [eB]; exact nI_ne0 (by omega) (by omega)))
    refine lv_aload_n hx hb d_MD_makesOfOne_22 rfl (lv_at hl 1 rfl) ?_
    refine qa_get (k := 22) (i := 0) (f := 26) (val := .ref (qa_a y 43 0)) E hC Nat.one_pos rfl rfl (by decide) f_MD_70 rfl rfl d_MD_makesOfOne_23 ?_
    refine lv_iconst (v := 0) hx hb d_MD_makesOfOne_26 (by decide) ?_
    refine lv_iload hx hb d_MD_makesOfOne_27 (lv_at hl 0 rfl) ?_
    refine qa_ist (k := 43) (i := 0) (j := 0) E hC Nat.one_pos rfl rfl rfl (show 0 < 16 by decide) d_MD_makesOfOne_29 (fun H locs hC => ?_)
    refine lv_iconst (v := 1) hx hb d_MD_makesOfOne_30 (by decide) ?_
    refine lv_istore hx hb d_MD_makesOfOne_31 hl (by decide) rfl (fun ls hl => ?_)
    have hl : lv_has ls 7 [(5, .int 1), (4, .int (qm_g y w s0 x i)), (0, .ref (qa_a y 22 0)), (1, .int (nI i)), (2, .int (nI s0)), (3, .int x)] := hl
    refine lv_iconst (v := 0) hx hb d_MD_makesOfOne_33 (by decide) ?_
    refine lv_istore hx hb d_MD_makesOfOne_34 hl (by decide) rfl (fun ls hl => ?_)
    have hl : lv_has ls 7 [(6, .int 0), (5, .int 1), (4, .int (qm_g y w s0 x i)), (0, .ref (qa_a y 22 0)), (1, .int (nI i)), (2, .int (nI s0)), (3, .int x)] := hl
    refine loop (qa_n y) 0 _ H locs ls (by omega) hC ⟨fun c b f h => qa_up_k h, ?_⟩ ?_
    · rw [g0]
      intro q hq
      obtain rfl : q = 0 := by simp at hq; exact hq
      exact qa_up_s
    · rw [g0]
      exact lv_sub hl [0, 1, 2, 3, 4, 5, 6] rfl

set_option maxHeartbeats 4000000 in
set_option maxRecDepth 100000 in
theorem c_MD_agrees (l : Launch) (y : qa_L) (v : qa_M) (i s0 : Nat) (x : Int32) (hi : i < qa_n y) (hs0 : s0 < qa_n y) (w : qa_M) (hR : qm_RM (qa_n y) w v) (hF : qm_fok w) (hM : qm_mok y w) : qa_Mi l y_MD_agrees b_MD_agrees 4 (some .int) 6 [.ref (qa_a y 22 0), .int (nI i), .int (nI s0), .int x] y v (fun r u => r = qm_AG y w i s0 x ∧ ∀ c b f, c ≠ 43 → u c b f = v c b f) := by
  refine qa_ofMi (plainFor_of_name (by decide)) (Nat.le_of_ble_eq_true rfl) ?_
  intro p e s m below meth c ls E hr hlocks hC hl
  have E : qa_E p m c b_MD_agrees 4 s _ "VotedFramesModel" y := E
  have F := E.1
  have hx := F.1
  have hb := F.2.1
  have hown : s.vm.findClass "VotedFramesModel" = some m.cls := F.2.2.2.1
  have hts := F.2.2.2.2
  have hn4 : 4 ≤ qa_n y := E.2.1.2.2.1
  have hn7 : qa_n y ≤ 7 := E.2.1.2.2.2.1
  have hl : lv_has ls 4 [(0, .ref (qa_a y 22 0)), (1, .int (nI i)), (2, .int (nI s0)), (3, .int x)] := hl
  have hm2 : qa_m y ≤ 2 := by have := E.2.1.2.2.2.2.1; omega
  obtain ⟨hB, hL2⟩ := qm_bn_ok hn7 hm2 (hM i hi).1
  have hL2 : qm_bn y w i ≤ 2 := by omega
  refine lv_iload_n hx hb d_MD_agrees_0 rfl (lv_at hl 1 rfl) ?_
  refine lv_iload_n hx hb d_MD_agrees_1 rfl (lv_at hl 2 rfl) ?_
  refine lv_icmp_ne hx hb d_MD_agrees_2 rfl (fun h2 => ?_) (fun h2 => ?_)
  · refine lv_aload_n hx hb d_MD_agrees_7 rfl (lv_at hl 0 rfl) ?_
    refine lv_iload_n hx hb d_MD_agrees_8 rfl (lv_at hl 1 rfl) ?_
    refine lv_iload_n hx hb d_MD_agrees_9 rfl (lv_at hl 2 rfl) ?_
    refine qa_pV (k := 22) (i := 0) (As := [.int (nI i), .int (nI s0)]) E hC (c_MD_member l y v i (nI s0) hi) Nat.one_pos rfl rfl k_MD_90 (qa_fitR (by decide) (by decide)) rfl hl.1 rfl (Nat.le_of_ble_eq_true rfl) d_MD_agrees_10 ?_
    refine lv_if_eq hx hb d_MD_agrees_13 rfl (fun h13 => ?_) (fun h13 => ?_)
    · refine lv_iconst (v := 0) hx hb d_MD_agrees_26 (by decide) ?_
      exact qa_mret E hC hr hlocks ⟨by unfold qm_AG; rw [if_neg (fun z => h2 (by rw [z])), if_neg]; rw [qr_msk hR hi] at h13; rw [qb_e0 h13]; decide, fun _ _ _ _ => rfl⟩ d_MD_agrees_27
    · refine lv_aload_n hx hb d_MD_agrees_16 rfl (lv_at hl 0 rfl) ?_
      refine lv_iload_n hx hb d_MD_agrees_17 rfl (lv_at hl 1 rfl) ?_
      refine lv_iload_n hx hb d_MD_agrees_18 rfl (lv_at hl 2 rfl) ?_
      refine lv_iload_n hx hb d_MD_agrees_19 rfl (lv_at hl 3 rfl) ?_
      refine qa_mV (k := 22) (i := 0) (As := [.int (nI i), .int (nI s0), .int x]) E hC (c_MD_makesOfOne l y v i s0 (qm_bn y w i) x hi hs0 w hR hF hB hM hL2) Nat.one_pos rfl rfl k_MD_123 (qa_fitR (by decide) (by decide)) rfl hl.1 rfl (Nat.le_of_ble_eq_true rfl) d_MD_agrees_20 (fun r1 u1 H locs hp1 hC => ?_)
      refine lv_goto hx hb d_MD_agrees_23 rfl ?_
      exact qa_mret E hC hr hlocks ⟨by unfold qm_AG; rw [if_neg (fun z => h2 (by rw [z])), if_pos (by rw [qr_msk hR hi] at h13; exact qb_n0 h13)]; exact hp1.1, hp1.2⟩ d_MD_agrees_27
  · refine lv_iload_n hx hb d_MD_agrees_5 rfl (lv_at hl 3 rfl) ?_
    exact qa_mret E hC hr hlocks ⟨by unfold qm_AG; rw [if_pos ((nI_eq (by omega) (by omega)).mp h2)], fun _ _ _ _ => rfl⟩ d_MD_agrees_6

set_option maxHeartbeats 4000000 in
set_option maxRecDepth 100000 in
theorem c_MD_isDue (l : Launch) (y : qa_L) (v : qa_M) (t : Nat) (ht : t < 4) (w : qa_M) (hR : qm_RM (qa_n y) w v) : qa_Pu l y_MD_isDue b_MD_isDue 2 (some .boolean) 0 [.ref (qa_a y 22 0), .int (nI t)] (qa_W y v) (qb (qm_due w t (w 0 0 11))) := by
  refine qa_ofPu (plainFor_of_name (by decide)) (Nat.le_of_ble_eq_true rfl) ?_
  intro p e s m below meth c ls F hr hlocks hW hl
  have E : qa_E p m c b_MD_isDue 2 s _ "VotedFramesModel" y := ⟨F, hW.2⟩
  have hC : qa_C y v s s.heap [] := ⟨hW.1, va_S.rf⟩
  have hx := F.1
  have hb := F.2.1
  have hown : s.vm.findClass "VotedFramesModel" = some m.cls := F.2.2.2.1
  have hts := F.2.2.2.2
  have hn4 : 4 ≤ qa_n y := E.2.1.2.2.1
  have hn7 : qa_n y ≤ 7 := E.2.1.2.2.2.1
  have hl : lv_has ls 2 [(0, .ref (qa_a y 22 0)), (1, .int (nI t))] := hl
  have q40 : v 40 0 t = w 13 t 3 := qr_13 hR ht (by omega)
  have q41 : v 41 0 t = w 13 t 4 := qr_13 hR ht (by omega)
  have q3 := qr_frm hR
  refine lv_aload_n hx hb d_MD_isDue_0 rfl (lv_at hl 0 rfl) ?_
  refine qa_get (k := 22) (i := 0) (f := 22) (val := .ref (qa_a y 40 0)) E hC Nat.one_pos rfl rfl (by decide) f_MD_61 rfl rfl d_MD_isDue_1 ?_
  refine lv_iload_n hx hb d_MD_isDue_4 rfl (lv_at hl 1 rfl) ?_
  refine qa_ild (k := 40) (i := 0) (j := t) E hC Nat.one_pos rfl rfl rfl ht d_MD_isDue_5 ?_
  refine lv_if_le hx hb d_MD_isDue_6 rfl (fun h6 => ?_) (fun h6 => ?_)
  · refine lv_iconst (v := 0) hx hb d_MD_isDue_33 (by decide) ?_
    exact qa_zret hx hb hr hlocks (qb_0 (by unfold qm_due; rw [← q40, ← q41, ← q3]; rw [decide_eq_false (fun q => qm_nle q h6)]; rfl)) rfl d_MD_isDue_34
  · refine lv_aload_n hx hb d_MD_isDue_9 rfl (lv_at hl 0 rfl) ?_
    refine qa_get (k := 22) (i := 0) (f := 3) (val := .int (v 22 0 3)) E hC Nat.one_pos rfl rfl (by decide) f_MD_94 rfl rfl d_MD_isDue_10 ?_
    refine lv_aload_n hx hb d_MD_isDue_13 rfl (lv_at hl 0 rfl) ?_
    refine qa_get (k := 22) (i := 0) (f := 22) (val := .ref (qa_a y 40 0)) E hC Nat.one_pos rfl rfl (by decide) f_MD_61 rfl rfl d_MD_isDue_14 ?_
    refine lv_iload_n hx hb d_MD_isDue_17 rfl (lv_at hl 1 rfl) ?_
    refine qa_ild (k := 40) (i := 0) (j := t) E hC Nat.one_pos rfl rfl rfl ht d_MD_isDue_18 ?_
    refine lv_irem hx hb d_MD_isDue_19 (fun q => h6 (by rw [q]; decide)) ?_
    refine lv_aload_n hx hb d_MD_isDue_20 rfl (lv_at hl 0 rfl) ?_
    refine qa_get (k := 22) (i := 0) (f := 23) (val := .ref (qa_a y 41 0)) E hC Nat.one_pos rfl rfl (by decide) f_MD_64 rfl rfl d_MD_isDue_21 ?_
    refine lv_iload_n hx hb d_MD_isDue_24 rfl (lv_at hl 1 rfl) ?_
    refine qa_ild (k := 41) (i := 0) (j := t) E hC Nat.one_pos rfl rfl rfl ht d_MD_isDue_25 ?_
    refine lv_icmp_ne hx hb d_MD_isDue_26 rfl (fun h26 => ?_) (fun h26 => ?_)
    · refine lv_iconst (v := 0) hx hb d_MD_isDue_33 (by decide) ?_
      exact qa_zret hx hb hr hlocks (qb_0 (by unfold qm_due; rw [← q40, ← q41, ← q3]; rw [decide_eq_false h26]; simp)) rfl d_MD_isDue_34
    · refine lv_iconst (v := 1) hx hb d_MD_isDue_29 (by decide) ?_
      refine lv_goto hx hb d_MD_isDue_30 rfl ?_
      exact qa_zret hx hb hr hlocks (qb_1 (by unfold qm_due; rw [← q40, ← q41, ← q3]; rw [decide_eq_true (qm_lt h6), decide_eq_true h26]; rfl)) rfl d_MD_isDue_34

set_option maxHeartbeats 4000000 in
set_option maxRecDepth 100000 in
theorem c_MD_shows (l : Launch) (y : qa_L) (v : qa_M) (j i : Nat) (hj : j < qa_n y) (hi : i < qa_n y) (w : qa_M) (hR : qm_RM (qa_n y) w v) : qa_Pu l y_MD_shows b_MD_shows 5 (some .int) 0 [.ref (qa_a y 22 0), .int (nI j), .int (nI i)] (qa_W y v) (qm_shows (w 2 j 9) (w 2 j 10) (w 2 j 6) (nI i)) := by
  refine qa_ofPu (plainFor_of_name (by decide)) (Nat.le_of_ble_eq_true rfl) ?_
  intro p e s m below meth c ls F hr hlocks hW hl
  have E : qa_E p m c b_MD_shows 5 s _ "VotedFramesModel" y := ⟨F, hW.2⟩
  have hC : qa_C y v s s.heap [] := ⟨hW.1, va_S.rf⟩
  have hx := F.1
  have hb := F.2.1
  have hown : s.vm.findClass "VotedFramesModel" = some m.cls := F.2.2.2.1
  have hts := F.2.2.2.2
  have hn4 : 4 ≤ qa_n y := E.2.1.2.2.1
  have hn7 : qa_n y ≤ 7 := E.2.1.2.2.2.1
  have hl : lv_has ls 5 [(0, .ref (qa_a y 22 0)), (1, .int (nI j)), (2, .int (nI i))] := hl
  rw [← qr_knd hR hj, ← qr_ext hR hj, ← qr_clk hR hj]
  refine lv_aload_n hx hb d_MD_shows_0 rfl (lv_at hl 0 rfl) ?_
  refine qa_get (k := 22) (i := 0) (f := 9) (val := .ref (qa_a y 27 0)) E hC Nat.one_pos rfl rfl (by decide) f_MD_22 rfl rfl d_MD_shows_1 ?_
  refine lv_iload_n hx hb d_MD_shows_4 rfl (lv_at hl 1 rfl) ?_
  refine qa_ild (k := 27) (i := 0) (j := j) E hC Nat.one_pos rfl rfl rfl (show j < 7 by omega) d_MD_shows_5 ?_
  refine lv_istore_n hx hb d_MD_shows_6 rfl hl (by decide) rfl (fun ls hl => ?_)
  have hl : lv_has ls 5 [(3, .int (v 27 0 j)), (0, .ref (qa_a y 22 0)), (1, .int (nI j)), (2, .int (nI i))] := hl
  refine lv_aload_n hx hb d_MD_shows_7 rfl (lv_at hl 1 rfl) ?_
  refine qa_get (k := 22) (i := 0) (f := 8) (val := .ref (qa_a y 26 0)) E hC Nat.one_pos rfl rfl (by decide) f_MD_19 rfl rfl d_MD_shows_8 ?_
  refine lv_iload_n hx hb d_MD_shows_11 rfl (lv_at hl 2 rfl) ?_
  refine qa_ild (k := 26) (i := 0) (j := j) E hC Nat.one_pos rfl rfl rfl (show j < 7 by omega) d_MD_shows_12 ?_
  refine lv_istore hx hb d_MD_shows_13 hl (by decide) rfl (fun ls hl => ?_)
  have hl : lv_has ls 5 [(4, .int (v 26 0 j)), (3, .int (v 27 0 j)), (0, .ref (qa_a y 22 0)), (1, .int (nI j)), (2, .int (nI i))] := hl
  refine lv_iload hx hb d_MD_shows_15 (lv_at hl 0 rfl) ?_
  refine lv_iconst (v := 2) hx hb d_MD_shows_17 (by decide) ?_
  refine lv_icmp_ne hx hb d_MD_shows_18 rfl (fun h18 => ?_) (fun h18 => ?_)
  · refine lv_iload hx hb d_MD_shows_25 (lv_at hl 0 rfl) ?_
    refine lv_iconst (v := 3) hx hb d_MD_shows_27 (by decide) ?_
    refine lv_icmp_ne hx hb d_MD_shows_28 rfl (fun h28 => ?_) (fun h28 => ?_)
    · refine lv_iload hx hb d_MD_shows_49 (lv_at hl 0 rfl) ?_
      refine lv_iconst (v := 4) hx hb d_MD_shows_51 (by decide) ?_
      refine lv_icmp_ne hx hb d_MD_shows_52 rfl (fun h52 => ?_) (fun h52 => ?_)
      · refine lv_aload_n hx hb d_MD_shows_70 rfl (lv_at hl 2 rfl) ?_
        refine qa_get (k := 22) (i := 0) (f := 5) (val := .ref (qa_a y 23 0)) E hC Nat.one_pos rfl rfl (by decide) f_MD_7 rfl rfl d_MD_shows_71 ?_
        refine lv_iload_n hx hb d_MD_shows_74 rfl (lv_at hl 3 rfl) ?_
        refine qa_ild (k := 23) (i := 0) (j := j) E hC Nat.one_pos rfl rfl rfl (show j < 7 by omega) d_MD_shows_75 ?_
        exact qa_iret hx hb hr hlocks ((qm_shows_o h18 (Or.inl h28) h52).symm) d_MD_shows_76
      · refine lv_aload_n hx hb d_MD_shows_55 rfl (lv_at hl 2 rfl) ?_
        refine qa_get (k := 22) (i := 0) (f := 5) (val := .ref (qa_a y 23 0)) E hC Nat.one_pos rfl rfl (by decide) f_MD_7 rfl rfl d_MD_shows_56 ?_
        refine lv_iload_n hx hb d_MD_shows_59 rfl (lv_at hl 3 rfl) ?_
        refine qa_ild (k := 23) (i := 0) (j := j) E hC Nat.one_pos rfl rfl rfl (show j < 7 by omega) d_MD_shows_60 ?_
        refine lv_iload_n hx hb d_MD_shows_61 rfl (lv_at hl 1 rfl) ?_
        refine lv_iload_n hx hb d_MD_shows_62 rfl (lv_at hl 4 rfl) ?_
        refine lv_iconst (v := 1) hx hb d_MD_shows_63 (by decide) ?_
        refine lv_iadd hx hb d_MD_shows_64 ?_
        refine lv_imul hx hb d_MD_shows_65 ?_
        refine lv_iadd hx hb d_MD_shows_66 ?_
        refine lv_goto hx hb d_MD_shows_67 rfl ?_
        exact qa_iret hx hb hr hlocks ((qm_shows_4 h52).symm) d_MD_shows_76
    · refine lv_iload_n hx hb d_MD_shows_31 rfl (lv_at hl 4 rfl) ?_
      refine lv_iconst (v := 2) hx hb d_MD_shows_32 (by decide) ?_
      refine lv_irem hx hb d_MD_shows_33 qm_div2 ?_
      refine lv_iconst (v := 1) hx hb d_MD_shows_34 (by decide) ?_
      refine lv_icmp_ne hx hb d_MD_shows_35 rfl (fun h35 => ?_) (fun h35 => ?_)
      · refine lv_iload hx hb d_MD_shows_49 (lv_at hl 0 rfl) ?_
        refine lv_iconst (v := 4) hx hb d_MD_shows_51 (by decide) ?_
        refine lv_icmp_ne hx hb d_MD_shows_52 rfl (fun h52 => ?_) (fun h52 => ?_)
        · refine lv_aload_n hx hb d_MD_shows_70 rfl (lv_at hl 2 rfl) ?_
          refine qa_get (k := 22) (i := 0) (f := 5) (val := .ref (qa_a y 23 0)) E hC Nat.one_pos rfl rfl (by decide) f_MD_7 rfl rfl d_MD_shows_71 ?_
          refine lv_iload_n hx hb d_MD_shows_74 rfl (lv_at hl 3 rfl) ?_
          refine qa_ild (k := 23) (i := 0) (j := j) E hC Nat.one_pos rfl rfl rfl (show j < 7 by omega) d_MD_shows_75 ?_
          exact qa_iret hx hb hr hlocks ((qm_shows_o h18 (Or.inr (qm_odd0 (by omega) h35)) h52).symm) d_MD_shows_76
        · refine lv_aload_n hx hb d_MD_shows_55 rfl (lv_at hl 2 rfl) ?_
          refine qa_get (k := 22) (i := 0) (f := 5) (val := .ref (qa_a y 23 0)) E hC Nat.one_pos rfl rfl (by decide) f_MD_7 rfl rfl d_MD_shows_56 ?_
          refine lv_iload_n hx hb d_MD_shows_59 rfl (lv_at hl 3 rfl) ?_
          refine qa_ild (k := 23) (i := 0) (j := j) E hC Nat.one_pos rfl rfl rfl (show j < 7 by omega) d_MD_shows_60 ?_
          refine lv_iload_n hx hb d_MD_shows_61 rfl (lv_at hl 1 rfl) ?_
          refine lv_iload_n hx hb d_MD_shows_62 rfl (lv_at hl 4 rfl) ?_
          refine lv_iconst (v := 1) hx hb d_MD_shows_63 (by decide) ?_
          refine lv_iadd hx hb d_MD_shows_64 ?_
          refine lv_imul hx hb d_MD_shows_65 ?_
          refine lv_iadd hx hb d_MD_shows_66 ?_
          refine lv_goto hx hb d_MD_shows_67 rfl ?_
          exact qa_iret hx hb hr hlocks ((qm_shows_4 h52).symm) d_MD_shows_76
      · refine lv_aload_n hx hb d_MD_shows_38 rfl (lv_at hl 2 rfl) ?_
        refine qa_get (k := 22) (i := 0) (f := 5) (val := .ref (qa_a y 23 0)) E hC Nat.one_pos rfl rfl (by decide) f_MD_7 rfl rfl d_MD_shows_39 ?_
        refine lv_iload_n hx hb d_MD_shows_42 rfl (lv_at hl 3 rfl) ?_
        refine qa_ild (k := 23) (i := 0) (j := j) E hC Nat.one_pos rfl rfl rfl (show j < 7 by omega) d_MD_shows_43 ?_
        refine lv_iload_n hx hb d_MD_shows_44 rfl (lv_at hl 1 rfl) ?_
        refine lv_iadd hx hb d_MD_shows_45 ?_
        refine lv_goto hx hb d_MD_shows_46 rfl ?_
        exact qa_iret hx hb hr hlocks ((qm_shows_3 h28 (qm_odd1 (by omega) h35)).symm) d_MD_shows_76
  · refine lv_iload_n hx hb d_MD_shows_21 rfl (lv_at hl 1 rfl) ?_
    refine lv_goto hx hb d_MD_shows_22 rfl ?_
    exact qa_iret hx hb hr hlocks ((qm_shows_2 h18).symm) d_MD_shows_76

set_option maxHeartbeats 4000000 in
set_option maxRecDepth 100000 in
theorem c_MD_mean (l : Launch) (y : qa_L) (v : qa_M) (i : Nat) (hi : i < qa_n y) (w : qa_M) (hR : qm_RM (qa_n y) w v) (hM : qm_mok y w) : qa_Pu l y_MD_mean b_MD_mean 5 (some .int) 2 [.ref (qa_a y 22 0), .int (nI i)] (qa_W y v) (qm_co y w i) := by
  refine qa_ofPu (plainFor_of_name (by decide)) (Nat.le_of_ble_eq_true rfl) ?_
  intro p e s m below meth c ls F hr hlocks hW hl
  have E : qa_E p m c b_MD_mean 5 s _ "VotedFramesModel" y := ⟨F, hW.2⟩
  have hC : qa_C y v s s.heap [] := ⟨hW.1, va_S.rf⟩
  have hx := F.1
  have hb := F.2.1
  have hown : s.vm.findClass "VotedFramesModel" = some m.cls := F.2.2.2.1
  have hts := F.2.2.2.2
  have hn4 : 4 ≤ qa_n y := E.2.1.2.2.1
  have hn7 : qa_n y ≤ 7 := E.2.1.2.2.2.1
  have hl : lv_has ls 5 [(0, .ref (qa_a y 22 0)), (1, .int (nI i))] := hl
  have q28 := qr_msk hR hi
  have q23 := qr_clk hR hi
  have hpc := qm_sz_pc hn4 hn7 (hM i hi).1
  have hp1 := qm_pc_pos hi (hM i hi).2
  have hp7 := qm_pc_le (qa_n y) (w 2 i 11)
  have loop : ∀ (d k : Nat) (ls : Array Slot), k + d = qa_n y → lv_has ls 5 [(3, .int (nI k)), (2, .int (qm_sm y w i k)), (0, .ref (qa_a y 22 0)), (1, .int (nI i))] → W p l e (qa_R 2) s m [.ref (qa_a y 22 0), .int (nI i)].toArray below meth c s.heap [] 0 0 (MQ below (QcRead (qm_co y w i)) [.ref (qa_a y 22 0), .int (nI i)].toArray s 0 0 (fun _ => False)) (F0 m 4 ls []) := by
    intro d
    induction d with
    | zero =>
      intro k ls hkd hl
      obtain rfl : qa_n y = k := by omega
      refine lv_iload_n hx hb d_MD_mean_4 rfl (lv_at hl 0 rfl) ?_
      refine lv_aload_n hx hb d_MD_mean_5 rfl (lv_at hl 2 rfl) ?_
      refine qa_get (k := 22) (i := 0) (f := 0) (val := .int (nI (qa_n y))) E hC Nat.one_pos rfl rfl (by decide) f_MD_73 rfl rfl d_MD_mean_6 ?_
      refine lv_icmp_ge hx hb d_MD_mean_9 rfl (fun _ => ?_) (fun h9 => absurd (nI_le (Nat.le_refl _) (by omega)) h9)
      refine lv_iload_n hx hb d_MD_mean_101 rfl (lv_at hl 1 rfl) ?_
      refine lv_aload_n hx hb d_MD_mean_102 rfl (lv_at hl 2 rfl) ?_
      refine lv_iload_n hx hb d_MD_mean_103 rfl (lv_at hl 3 rfl) ?_
      refine qa_pV (k := 22) (i := 0) (As := [.int (nI i)]) E hC (c_MD_size l y v i hi) Nat.one_pos rfl rfl k_MD_142 (qa_fitR (by decide) (by decide)) rfl hl.1 rfl (Nat.le_of_ble_eq_true rfl) d_MD_mean_104 ?_
      refine qa_pT (As := [.int (qm_sm y w i (qa_n y)), .int (nI (qm_pc (qa_n y) (v 28 0 i)))]) F (c_MD_down l (qm_sm y w i (qa_n y)) (nI (qm_pc (qa_n y) (v 28 0 i))) (nI_ne0 (by rw [q28]; omega) (by rw [q28]; omega))) k_MD_126 (qa_fitR (by decide) (by decide)) rfl hl.1 rfl (Nat.le_of_ble_eq_true rfl) d_MD_mean_107 ?_
      exact qa_iret hx hb hr hlocks (by unfold qm_co; rw [if_neg (by rw [hpc.1]; exact nI_ne0 (by omega) (by omega)), hpc.1, q28]) d_MD_mean_110
    | succ d ih =>
      intro k ls hkd hl
      have hk : k < qa_n y := by omega
      refine lv_iload_n hx hb d_MD_mean_4 rfl (lv_at hl 0 rfl) ?_
      refine lv_aload_n hx hb d_MD_mean_5 rfl (lv_at hl 2 rfl) ?_
      refine qa_get (k := 22) (i := 0) (f := 0) (val := .int (nI (qa_n y))) E hC Nat.one_pos rfl rfl (by decide) f_MD_73 rfl rfl d_MD_mean_6 ?_
      refine lv_icmp_ge hx hb d_MD_mean_9 rfl (fun h9 => absurd h9 (nI_ge hk (by omega))) (fun _ => ?_)
      refine lv_iload_n hx hb d_MD_mean_12 rfl (lv_at hl 0 rfl) ?_
      refine lv_iload_n hx hb d_MD_mean_13 rfl (lv_at hl 3 rfl) ?_
      refine lv_icmp_eq hx hb d_MD_mean_14 rfl (fun h14 => ?_) (fun h14 => ?_)
      · refine lv_iinc (v := nI (k + 1)) hx hb d_MD_mean_95 hl (k := 0) rfl (nI_1 k) (by decide) rfl (fun ls hl => ?_)
        have hl : lv_has ls 5 [(3, .int (nI (k + 1))), (2, .int (qm_sm y w i k)), (0, .ref (qa_a y 22 0)), (1, .int (nI i))] := hl
        refine lv_goto hx hb d_MD_mean_98 rfl ?_
        have e5 : qm_sm y w i (k + 1) = qm_sm y w i k := if_neg (fun z => z.1 ((nI_eq (by omega) (by omega)).mp h14))
        refine ih (k + 1) ls (by omega) ?_
        rw [e5]
        exact lv_sub hl [0, 1, 2, 3] rfl
      · refine lv_aload_n hx hb d_MD_mean_17 rfl (lv_at hl 2 rfl) ?_
        refine lv_iload_n hx hb d_MD_mean_18 rfl (lv_at hl 3 rfl) ?_
        refine lv_iload_n hx hb d_MD_mean_19 rfl (lv_at hl 0 rfl) ?_
        refine qa_pV (k := 22) (i := 0) (As := [.int (nI i), .int (nI k)]) E hC (c_MD_member l y v i (nI k) hi) Nat.one_pos rfl rfl k_MD_90 (qa_fitR (by decide) (by decide)) rfl hl.1 rfl (Nat.le_of_ble_eq_true rfl) d_MD_mean_20 ?_
        refine lv_if_eq hx hb d_MD_mean_23 rfl (fun h23 => ?_) (fun h23 => ?_)
        · refine lv_iinc (v := nI (k + 1)) hx hb d_MD_mean_95 hl (k := 0) rfl (nI_1 k) (by decide) rfl (fun ls hl => ?_)
          have hl : lv_has ls 5 [(3, .int (nI (k + 1))), (2, .int (qm_sm y w i k)), (0, .ref (qa_a y 22 0)), (1, .int (nI i))] := hl
          refine lv_goto hx hb d_MD_mean_98 rfl ?_
          have e5 : qm_sm y w i (k + 1) = qm_sm y w i k := if_neg (fun z => by rw [q28, z.2.1] at h23; exact absurd h23 (by decide))
          refine ih (k + 1) ls (by omega) ?_
          rw [e5]
          exact lv_sub hl [0, 1, 2, 3] rfl
        · refine lv_aload_n hx hb d_MD_mean_26 rfl (lv_at hl 2 rfl) ?_
          refine qa_get (k := 22) (i := 0) (f := 8) (val := .ref (qa_a y 26 0)) E hC Nat.one_pos rfl rfl (by decide) f_MD_19 rfl rfl d_MD_mean_27 ?_
          refine lv_iload_n hx hb d_MD_mean_30 rfl (lv_at hl 0 rfl) ?_
          refine qa_ild (k := 26) (i := 0) (j := k) E hC Nat.one_pos rfl rfl rfl (show k < 7 by omega) d_MD_mean_31 ?_
          refine lv_iconst (v := 1) hx hb d_MD_mean_32 (by decide) ?_
          refine lv_icmp_eq hx hb d_MD_mean_33 rfl (fun h33 => ?_) (fun h33 => ?_)
          · refine lv_iinc (v := nI (k + 1)) hx hb d_MD_mean_95 hl (k := 0) rfl (nI_1 k) (by decide) rfl (fun ls hl => ?_)
            have hl : lv_has ls 5 [(3, .int (nI (k + 1))), (2, .int (qm_sm y w i k)), (0, .ref (qa_a y 22 0)), (1, .int (nI i))] := hl
            refine lv_goto hx hb d_MD_mean_98 rfl ?_
            have e5 : qm_sm y w i (k + 1) = qm_sm y w i k := if_neg (fun z => z.2.2 (by rw [← qr_knd hR hk]; exact h33))
            refine ih (k + 1) ls (by omega) ?_
            rw [e5]
            exact lv_sub hl [0, 1, 2, 3] rfl
          · refine lv_aload_n hx hb d_MD_mean_36 rfl (lv_at hl 2 rfl) ?_
            refine lv_iload_n hx hb d_MD_mean_37 rfl (lv_at hl 0 rfl) ?_
            refine lv_iload_n hx hb d_MD_mean_38 rfl (lv_at hl 3 rfl) ?_
            refine qa_pV (k := 22) (i := 0) (As := [.int (nI k), .int (nI i)]) E hC (c_MD_shows l y v k i hk hi w hR) Nat.one_pos rfl rfl k_MD_158 (qa_fitR (by decide) (by decide)) rfl hl.1 rfl (Nat.le_of_ble_eq_true rfl) d_MD_mean_39 ?_
            refine lv_aload_n hx hb d_MD_mean_42 rfl (lv_at hl 2 rfl) ?_
            refine qa_get (k := 22) (i := 0) (f := 18) (val := .ref (qa_a y 36 0)) E hC Nat.one_pos rfl rfl (by decide) f_MD_49 rfl rfl d_MD_mean_43 ?_
            refine lv_bipush (v := 7) hx hb d_MD_mean_46 (by decide) ?_
            refine lv_iload_n hx hb d_MD_mean_48 rfl (lv_at hl 0 rfl) ?_
            refine lv_imul hx hb d_MD_mean_49 ?_
            refine lv_iload_n hx hb d_MD_mean_50 rfl (lv_at hl 3 rfl) ?_
            refine lv_iadd hx hb d_MD_mean_51 ?_
            refine qa_ild (k := 36) (i := 0) (j := ((7 * k) + i)) E hC Nat.one_pos rfl rfl (qn_add (qn_mul rfl rfl) rfl) (show (7 * k) + i < 49 by omega) d_MD_mean_52 ?_
            refine lv_iadd hx hb d_MD_mean_53 ?_
            refine lv_aload_n hx hb d_MD_mean_54 rfl (lv_at hl 2 rfl) ?_
            refine qa_get (k := 22) (i := 0) (f := 5) (val := .ref (qa_a y 23 0)) E hC Nat.one_pos rfl rfl (by decide) f_MD_7 rfl rfl d_MD_mean_55 ?_
            refine lv_iload_n hx hb d_MD_mean_58 rfl (lv_at hl 3 rfl) ?_
            refine qa_ild (k := 23) (i := 0) (j := i) E hC Nat.one_pos rfl rfl rfl (show i < 7 by omega) d_MD_mean_59 ?_
            refine lv_isub hx hb d_MD_mean_60 ?_
            refine lv_istore hx hb d_MD_mean_61 hl (by decide) rfl (fun ls hl => ?_)
            have hl : lv_has ls 5 [(4, .int (((qm_shows (w 2 k 9) (w 2 k 10) (w 2 k 6) (nI i)) + (v 36 0 ((7 * k) + i))) - (v 23 0 i))), (3, .int (nI k)), (2, .int (qm_sm y w i k)), (0, .ref (qa_a y 22 0)), (1, .int (nI i))] := hl
            refine lv_iload hx hb d_MD_mean_63 (lv_at hl 0 rfl) ?_
            refine lv_aload_n hx hb d_MD_mean_65 rfl (lv_at hl 3 rfl) ?_
            refine qa_get (k := 22) (i := 0) (f := 2) (val := .int (qa_d y)) E hC Nat.one_pos rfl rfl (by decide) f_MD_80 rfl rfl d_MD_mean_66 ?_
            refine lv_iconst (v := 3) hx hb d_MD_mean_69 (by decide) ?_
            refine lv_iadd hx hb d_MD_mean_70 ?_
            refine lv_ineg hx hb d_MD_mean_71 ?_
            refine lv_icmp_lt hx hb d_MD_mean_72 rfl (fun h72 => ?_) (fun h72 => ?_)
            · refine lv_iload_n hx hb d_MD_mean_86 rfl (lv_at hl 2 rfl) ?_
              refine lv_goto hx hb d_MD_mean_87 rfl ?_
              refine lv_istore_n hx hb d_MD_mean_94 rfl hl (by decide) rfl (fun ls hl => ?_)
              have hl : lv_has ls 5 [(2, .int (qm_sm y w i k)), (4, .int (((qm_shows (w 2 k 9) (w 2 k 10) (w 2 k 6) (nI i)) + (v 36 0 ((7 * k) + i))) - (v 23 0 i))), (3, .int (nI k)), (0, .ref (qa_a y 22 0)), (1, .int (nI i))] := hl
              refine lv_iinc (v := nI (k + 1)) hx hb d_MD_mean_95 hl (k := 2) rfl (nI_1 k) (by decide) rfl (fun ls hl => ?_)
              have hl : lv_has ls 5 [(3, .int (nI (k + 1))), (2, .int (qm_sm y w i k)), (4, .int (((qm_shows (w 2 k 9) (w 2 k 10) (w 2 k 6) (nI i)) + (v 36 0 ((7 * k) + i))) - (v 23 0 i))), (0, .ref (qa_a y 22 0)), (1, .int (nI i))] := hl
              refine lv_goto hx hb d_MD_mean_98 rfl ?_
              have ed : qm_shows (w 2 k 9) (w 2 k 10) (w 2 k 6) (nI i) + v 36 0 (7 * k + i) - v 23 0 i = qm_df w i k := by unfold qm_df; rw [qr_err hR hi hk, q23]
              have e5 : qm_sm y w i (k + 1) = qm_sm y w i k := by rw [qm_sm, if_pos ⟨fun z => h14 (by rw [z]), by rw [← q28]; exact qb_n0 h23, fun z => h33 (by rw [qr_knd hR hk]; exact z)⟩, if_neg (by rw [qm_wi_f1 (qm_nle (by rw [← ed]; exact h72))]; decide), Int32.add_zero]
              refine ih (k + 1) ls (by omega) ?_
              rw [e5]
              exact lv_sub hl [0, 1, 3, 4] rfl
            · refine lv_iload hx hb d_MD_mean_75 (lv_at hl 0 rfl) ?_
              refine lv_aload_n hx hb d_MD_mean_77 rfl (lv_at hl 3 rfl) ?_
              refine qa_get (k := 22) (i := 0) (f := 2) (val := .int (qa_d y)) E hC Nat.one_pos rfl rfl (by decide) f_MD_80 rfl rfl d_MD_mean_78 ?_
              refine lv_iconst (v := 3) hx hb d_MD_mean_81 (by decide) ?_
              refine lv_iadd hx hb d_MD_mean_82 ?_
              refine lv_icmp_le hx hb d_MD_mean_83 rfl (fun h83 => ?_) (fun h83 => ?_)
              · refine lv_iload_n hx hb d_MD_mean_90 rfl (lv_at hl 2 rfl) ?_
                refine lv_iload hx hb d_MD_mean_91 (lv_at hl 0 rfl) ?_
                refine lv_iadd hx hb d_MD_mean_93 ?_
                refine lv_istore_n hx hb d_MD_mean_94 rfl hl (by decide) rfl (fun ls hl => ?_)
                have hl : lv_has ls 5 [(2, .int ((qm_sm y w i k) + (((qm_shows (w 2 k 9) (w 2 k 10) (w 2 k 6) (nI i)) + (v 36 0 ((7 * k) + i))) - (v 23 0 i)))), (4, .int (((qm_shows (w 2 k 9) (w 2 k 10) (w 2 k 6) (nI i)) + (v 36 0 ((7 * k) + i))) - (v 23 0 i))), (3, .int (nI k)), (0, .ref (qa_a y 22 0)), (1, .int (nI i))] := hl
                refine lv_iinc (v := nI (k + 1)) hx hb d_MD_mean_95 hl (k := 2) rfl (nI_1 k) (by decide) rfl (fun ls hl => ?_)
                have hl : lv_has ls 5 [(3, .int (nI (k + 1))), (2, .int ((qm_sm y w i k) + (((qm_shows (w 2 k 9) (w 2 k 10) (w 2 k 6) (nI i)) + (v 36 0 ((7 * k) + i))) - (v 23 0 i)))), (4, .int (((qm_shows (w 2 k 9) (w 2 k 10) (w 2 k 6) (nI i)) + (v 36 0 ((7 * k) + i))) - (v 23 0 i))), (0, .ref (qa_a y 22 0)), (1, .int (nI i))] := hl
                refine lv_goto hx hb d_MD_mean_98 rfl ?_
                have ed : qm_shows (w 2 k 9) (w 2 k 10) (w 2 k 6) (nI i) + v 36 0 (7 * k + i) - v 23 0 i = qm_df w i k := by unfold qm_df; rw [qr_err hR hi hk, q23]
                have e5 : qm_sm y w i (k + 1) = qm_sm y w i k + (qm_shows (w 2 k 9) (w 2 k 10) (w 2 k 6) (nI i) + v 36 0 (7 * k + i) - v 23 0 i) := by rw [qm_sm, if_pos ⟨fun z => h14 (by rw [z]), by rw [← q28]; exact qb_n0 h23, fun z => h33 (by rw [qr_knd hR hk]; exact z)⟩, if_pos (qm_wi_t (by rw [← ed]; exact qm_nlt h72) (by rw [← ed]; exact h83)), ed]
                refine ih (k + 1) ls (by omega) ?_
                rw [e5]
                exact lv_sub hl [0, 1, 3, 4] rfl
              · refine lv_iload_n hx hb d_MD_mean_86 rfl (lv_at hl 2 rfl) ?_
                refine lv_goto hx hb d_MD_mean_87 rfl ?_
                refine lv_istore_n hx hb d_MD_mean_94 rfl hl (by decide) rfl (fun ls hl => ?_)
                have hl : lv_has ls 5 [(2, .int (qm_sm y w i k)), (4, .int (((qm_shows (w 2 k 9) (w 2 k 10) (w 2 k 6) (nI i)) + (v 36 0 ((7 * k) + i))) - (v 23 0 i))), (3, .int (nI k)), (0, .ref (qa_a y 22 0)), (1, .int (nI i))] := hl
                refine lv_iinc (v := nI (k + 1)) hx hb d_MD_mean_95 hl (k := 2) rfl (nI_1 k) (by decide) rfl (fun ls hl => ?_)
                have hl : lv_has ls 5 [(3, .int (nI (k + 1))), (2, .int (qm_sm y w i k)), (4, .int (((qm_shows (w 2 k 9) (w 2 k 10) (w 2 k 6) (nI i)) + (v 36 0 ((7 * k) + i))) - (v 23 0 i))), (0, .ref (qa_a y 22 0)), (1, .int (nI i))] := hl
                refine lv_goto hx hb d_MD_mean_98 rfl ?_
                have ed : qm_shows (w 2 k 9) (w 2 k 10) (w 2 k 6) (nI i) + v 36 0 (7 * k + i) - v 23 0 i = qm_df w i k := by unfold qm_df; rw [qr_err hR hi hk, q23]
                have e5 : qm_sm y w i (k + 1) = qm_sm y w i k := by rw [qm_sm, if_pos ⟨fun z => h14 (by rw [z]), by rw [← q28]; exact qb_n0 h23, fun z => h33 (by rw [qr_knd hR hk]; exact z)⟩, if_neg (by rw [qm_wi_f2 (by rw [← ed]; exact h83)]; decide), Int32.add_zero]
                refine ih (k + 1) ls (by omega) ?_
                rw [e5]
                exact lv_sub hl [0, 1, 3, 4] rfl
  refine lv_iconst (v := 0) hx hb d_MD_mean_0 (by decide) ?_
  refine lv_istore_n hx hb d_MD_mean_1 rfl hl (by decide) rfl (fun ls hl => ?_)
  have hl : lv_has ls 5 [(2, .int 0), (0, .ref (qa_a y 22 0)), (1, .int (nI i))] := hl
  refine lv_iconst (v := 0) hx hb d_MD_mean_2 (by decide) ?_
  refine lv_istore_n hx hb d_MD_mean_3 rfl hl (by decide) rfl (fun ls hl => ?_)
  have hl : lv_has ls 5 [(3, .int 0), (2, .int 0), (0, .ref (qa_a y 22 0)), (1, .int (nI i))] := hl
  exact loop (qa_n y) 0 ls (by omega) (lv_sub hl [0, 1, 2, 3] rfl)
