set_option maxHeartbeats 4000000 in
set_option maxRecDepth 100000 in
theorem c_MD_vote (l : Launch) (y : qa_L) (v : qa_M) (i t : Nat) (hi : i < qa_n y) (ht : t < 4) (w : qa_M) (hR : qm_RM (qa_n y) w v) (hF : qm_fok w) (hM : qm_mok y w) (hS : (qm_bl y w (v 31 0) i (qa_n y)).length ≤ qm_sz w i) : qa_Mv l y_MD_vote b_MD_vote 10 2 [.ref (qa_a y 22 0), .int (nI i), .int (nI t)] y v (fun u => ∀ c b f, c ≠ 43 → u c b f = qa_up (qa_up v 32 0 (4 * i + t) ((qm_wn y w (v 31 0) i).getD 0)) 29 0 i (qm_va y w (v 31 0) i (v 29 0 i)) c b f) := by
  refine qa_ofMv (plainFor_of_name (by decide)) (Nat.le_of_ble_eq_true rfl) ?_
  intro p e s m below meth c ls E hr hlocks hC hl
  have E : qa_E p m c b_MD_vote 10 s _ "VotedFramesModel" y := E
  have F := E.1
  have hx := F.1
  have hb := F.2.1
  have hown : s.vm.findClass "VotedFramesModel" = some m.cls := F.2.2.2.1
  have hts := F.2.2.2.2
  have hn4 : 4 ≤ qa_n y := E.2.1.2.2.1
  have hn7 : qa_n y ≤ 7 := E.2.1.2.2.2.1
  have hl : lv_has ls 10 [(0, .ref (qa_a y 22 0)), (1, .int (nI i)), (2, .int (nI t))] := hl
  have hpc := qm_sz_pc hn4 hn7 (hM i hi).1
  obtain ⟨G, hG⟩ : ∃ G : Nat → List Int32, G = qm_lo y w (v 31 0) i := ⟨_, rfl⟩
  have gl : ∀ k, (G k).length ≤ k := fun k => by rw [hG]; exact qm_lo_le _ _ _ _ _
  have gi : ∀ k, k = i → G (k + 1) = G k ++ [v 31 0 i] := fun k h => by rw [hG]; exact qm_lo_i h
  have gt : ∀ k, ¬ k = i → qm_hr y w k i = true → G (k + 1) = G k ++ [qm_sr w (v 31 0) i k] := fun k h h2 => by rw [hG]; exact qm_lo_t h h2
  have gf : ∀ k, ¬ k = i → qm_hr y w k i = false → G (k + 1) = G k := fun k h h2 => by rw [hG]; exact qm_lo_f h h2
  have gno : (∀ x, x ∈ G (qa_n y) → 2 * (G (qa_n y)).count x ≤ qm_sz w i) → qm_wn y w (v 31 0) i = none := by rw [hG]; exact fun h => qm_wn_no hi h
  have gin : ∀ x, qm_sz w i < 2 * (G (qa_n y)).count x → qm_wn y w (v 31 0) i = some x := by rw [hG]; exact fun x h => qm_wn_in hi hS h
  have hcl : ∀ x : Int32, (G (qa_n y)).count x ≤ qa_n y := fun x => Nat.le_trans List.count_le_length (gl _)
  have hs7 : qm_sz w i ≤ 7 := by rw [hpc.2]; have := qm_pc_le (qa_n y) (w 2 i 11); omega
  have loopA : ∀ (d k : Nat) (u : qa_M) (H : Heap) (locs : List Loc) (ls : Array Slot), k + d = qa_n y → qa_C y u s H locs → ((∀ c b f, c ≠ 43 → u c b f = v c b f) ∧ qm_hd (u 43 0) (G k)) → lv_has ls 10 [(4, .int (nI k)), (3, .int (nI ((G k).length))), (0, .ref (qa_a y 22 0)), (1, .int (nI i)), (2, .int (nI t))] → W p l e (qa_R 2) s m [.ref (qa_a y 22 0), .int (nI i), .int (nI t)].toArray below meth c H locs 0 0 (MQ below (va_Qv (fun u => ∀ c b f, c ≠ 43 → u c b f = qa_up (qa_up v 32 0 (4 * i + t) ((qm_wn y w (v 31 0) i).getD 0)) 29 0 i (qm_va y w (v 31 0) i (v 29 0 i)) c b f) (fun u t => qa_W y u t) (qa_A y)) [.ref (qa_a y 22 0), .int (nI i), .int (nI t)].toArray s 0 0 (qa_A y)) (F0 m 5 ls []) := by
    intro d
    induction d with
    | zero =>
      intro k u H locs ls hkd hC hI hl
      obtain rfl : qa_n y = k := by omega
      refine lv_iload hx hb d_MD_vote_5 (lv_at hl 0 rfl) ?_
      refine lv_aload_n hx hb d_MD_vote_7 rfl (lv_at hl 2 rfl) ?_
      refine qa_get (k := 22) (i := 0) (f := 0) (val := .int (nI (qa_n y))) E hC Nat.one_pos rfl rfl (by decide) f_MD_73 rfl rfl d_MD_vote_8 ?_
      refine lv_icmp_ge hx hb d_MD_vote_11 rfl (fun _ => ?_) (fun h9 => absurd (nI_le (Nat.le_refl _) (by omega)) h9)
      refine lv_aload_n hx hb d_MD_vote_74 rfl (lv_at hl 2 rfl) ?_
      refine lv_iload_n hx hb d_MD_vote_75 rfl (lv_at hl 3 rfl) ?_
      refine qa_pV (k := 22) (i := 0) (As := [.int (nI i)]) E hC (c_MD_size l y u i hi) Nat.one_pos rfl rfl k_MD_142 (qa_fitR (by decide) (by decide)) rfl hl.1 rfl (Nat.le_of_ble_eq_true rfl) d_MD_vote_76 ?_
      refine lv_istore hx hb d_MD_vote_79 hl (by decide) rfl (fun ls hl => ?_)
      have hl : lv_has ls 10 [(4, .int (nI (qm_pc (qa_n y) (u 28 0 i)))), (3, .int (nI ((G (qa_n y)).length))), (0, .ref (qa_a y 22 0)), (1, .int (nI i)), (2, .int (nI t))] := hl
      refine lv_iconst (v := 0) hx hb d_MD_vote_81 (by decide) ?_
      refine lv_istore hx hb d_MD_vote_82 hl (by decide) rfl (fun ls hl => ?_)
      have hl : lv_has ls 10 [(5, .int 0), (4, .int (nI (qm_pc (qa_n y) (u 28 0 i)))), (3, .int (nI ((G (qa_n y)).length))), (0, .ref (qa_a y 22 0)), (1, .int (nI i)), (2, .int (nI t))] := hl
      refine lv_iconst (v := 0) hx hb d_MD_vote_84 (by decide) ?_
      refine lv_istore hx hb d_MD_vote_85 hl (by decide) rfl (fun ls hl => ?_)
      have hl : lv_has ls 10 [(6, .int 0), (5, .int 0), (4, .int (nI (qm_pc (qa_n y) (u 28 0 i)))), (3, .int (nI ((G (qa_n y)).length))), (0, .ref (qa_a y 22 0)), (1, .int (nI i)), (2, .int (nI t))] := hl
      refine lv_iconst (v := 0) hx hb d_MD_vote_87 (by decide) ?_
      refine lv_istore hx hb d_MD_vote_88 hl (by decide) rfl (fun ls hl => ?_)
      have hl : lv_has ls 10 [(7, .int 0), (6, .int 0), (5, .int 0), (4, .int (nI (qm_pc (qa_n y) (u 28 0 i)))), (3, .int (nI ((G (qa_n y)).length))), (0, .ref (qa_a y 22 0)), (1, .int (nI i)), (2, .int (nI t))] := hl
      have hA := hI
      have hall : nI (qm_pc (qa_n y) (u 28 0 i)) = nI (qm_sz w i) := by rw [hA.1 28 0 i (by decide), qr_msk hR hi, hpc.2]
      rw [hall] at hl
      have hcs : ∀ k, qm_cs (u 43 0) (u 43 0 k) 0 (G (qa_n y)).length = (G (qa_n y)).count (u 43 0 k) := fun k => by
        have := qm_hd_cs hA.2 (p := 0) (by omega) (u 43 0 k)
        rw [Nat.sub_zero, List.drop_zero] at this
        exact this
      have loopB : ∀ (d k : Nat) (wn va : Int32) (ls : Array Slot), k + d = (G (qa_n y)).length → ((wn = 0 ∧ va = 0 ∧ ∀ p, p < k → 2 * (G (qa_n y)).count (u 43 0 p) ≤ qm_sz w i) ∨ (wn = 1 ∧ qm_sz w i < 2 * (G (qa_n y)).count va)) → lv_has ls 10 [(7, .int (nI k)), (6, .int va), (5, .int wn), (4, .int (nI (qm_sz w i))), (3, .int (nI ((G (qa_n y)).length))), (0, .ref (qa_a y 22 0)), (1, .int (nI i)), (2, .int (nI t))] → W p l e (qa_R 2) s m [.ref (qa_a y 22 0), .int (nI i), .int (nI t)].toArray below meth c H locs 0 0 (MQ below (va_Qv (fun u => ∀ c b f, c ≠ 43 → u c b f = qa_up (qa_up v 32 0 (4 * i + t) ((qm_wn y w (v 31 0) i).getD 0)) 29 0 i (qm_va y w (v 31 0) i (v 29 0 i)) c b f) (fun u t => qa_W y u t) (qa_A y)) [.ref (qa_a y 22 0), .int (nI i), .int (nI t)].toArray s 0 0 (qa_A y)) (F0 m 90 ls []) := by
        intro d
        induction d with
        | zero =>
          intro k wn va ls hkd hB hl
          obtain rfl : (G (qa_n y)).length = k := by omega
          rcases hB with ⟨rfl, rfl, hb1⟩ | ⟨rfl, hb1⟩
          · have ew := gno (fun x hx => by
              obtain ⟨p9, hp9, e9⟩ := List.getElem_of_mem hx
              have h8 := hb1 p9 hp9
              have h7 := hA.2 p9 hp9
              simp only [List.getD_eq_getElem?_getD, List.getElem?_eq_getElem hp9, Option.getD_some, e9] at h7
              rw [h7] at h8
              exact h8)
            obtain ⟨B, hB⟩ : ∃ B : Nat → Int32, B = (fun _ => v 29 0 i) := ⟨_, rfl⟩
            have hB0 : B 0 = v 29 0 i := by rw [hB]
            have hBn : B (qa_n y) = qm_va y w (v 31 0) i (v 29 0 i) := by
              rw [hB]
              unfold qm_va
              rw [ew]
            have hwn : (qm_wn y w (v 31 0) i).getD 0 = 0 := by rw [ew]; rfl
            refine lv_iload hx hb d_MD_vote_90 (lv_at hl 0 rfl) ?_
            refine lv_iload_n hx hb d_MD_vote_92 rfl (lv_at hl 4 rfl) ?_
            refine lv_icmp_ge hx hb d_MD_vote_93 rfl (fun _ => ?_) (fun h9 => absurd (nI_le (Nat.le_refl _) (by have := gl (qa_n y); omega)) h9)
            refine lv_aload_n hx hb d_MD_vote_169 rfl (lv_at hl 5 rfl) ?_
            refine qa_get (k := 22) (i := 0) (f := 14) (val := .ref (qa_a y 32 0)) E hC Nat.one_pos rfl rfl (by decide) f_MD_37 rfl rfl d_MD_vote_170 ?_
            refine lv_iconst (v := 4) hx hb d_MD_vote_173 (by decide) ?_
            refine lv_iload_n hx hb d_MD_vote_174 rfl (lv_at hl 6 rfl) ?_
            refine lv_imul hx hb d_MD_vote_175 ?_
            refine lv_iload_n hx hb d_MD_vote_176 rfl (lv_at hl 7 rfl) ?_
            refine lv_iadd hx hb d_MD_vote_177 ?_
            refine lv_iload hx hb d_MD_vote_178 (lv_at hl 1 rfl) ?_
            refine qa_ist (k := 32) (i := 0) (j := ((4 * i) + t)) E hC Nat.one_pos rfl rfl (qn_add (qn_mul rfl rfl) rfl) (show (4 * i) + t < 32 by omega) d_MD_vote_180 (fun H locs hC => ?_)
            refine lv_iconst (v := 0) hx hb d_MD_vote_181 (by decide) ?_
            refine lv_istore hx hb d_MD_vote_182 hl (by decide) rfl (fun ls hl => ?_)
            have hl : lv_has ls 10 [(7, .int 0), (6, .int 0), (5, .int 0), (4, .int (nI (qm_sz w i))), (3, .int (nI ((G (qa_n y)).length))), (0, .ref (qa_a y 22 0)), (1, .int (nI i)), (2, .int (nI t))] := hl
            have loopD : ∀ (d j : Nat) (u : qa_M) (H : Heap) (locs : List Loc) (ls : Array Slot), j + d = qa_n y → qa_C y u s H locs → (∀ c b f, c ≠ 43 → u c b f = qa_up (qa_up v 32 0 (4 * i + t) 0) 29 0 i (B j) c b f) → lv_has ls 10 [(7, .int (nI j)), (6, .int 0), (5, .int 0), (0, .ref (qa_a y 22 0)), (1, .int (nI i)), (2, .int (nI t))] → W p l e (qa_R 2) s m [.ref (qa_a y 22 0), .int (nI i), .int (nI t)].toArray below meth c H locs 0 0 (MQ below (va_Qv (fun u => ∀ c b f, c ≠ 43 → u c b f = qa_up (qa_up v 32 0 (4 * i + t) ((qm_wn y w (v 31 0) i).getD 0)) 29 0 i (qm_va y w (v 31 0) i (v 29 0 i)) c b f) (fun u t => qa_W y u t) (qa_A y)) [.ref (qa_a y 22 0), .int (nI i), .int (nI t)].toArray s 0 0 (qa_A y)) (F0 m 184 ls []) := by
              intro d
              induction d with
              | zero =>
                intro j u H locs ls hkd hC hD hl
                obtain rfl : qa_n y = j := by omega
                refine lv_iload hx hb d_MD_vote_184 (lv_at hl 0 rfl) ?_
                refine lv_aload_n hx hb d_MD_vote_186 rfl (lv_at hl 3 rfl) ?_
                refine qa_get (k := 22) (i := 0) (f := 0) (val := .int (nI (qa_n y))) E hC Nat.one_pos rfl rfl (by decide) f_MD_73 rfl rfl d_MD_vote_187 ?_
                refine lv_icmp_ge hx hb d_MD_vote_190 rfl (fun _ => ?_) (fun h9 => absurd (nI_le (Nat.le_refl _) (by omega)) h9)
                exact qa_mvret E hC hr hlocks (fun c b f h => by rw [hD c b f h, hwn, hBn]) d_MD_vote_278
              | succ d ihD =>
                intro j u H locs ls hkd hC hD hl
                have hj : j < qa_n y := by omega
                have hRd : qm_RM (qa_n y) (qa_up (qa_up w 7 i t 0) 2 i 13 (B j)) u := qm_RM_n (qm_RM_up hn7 (qm_RM_up hn7 hR (qm_mu_w hi ht)) (qm_mu_2 (k := 29) (c := 13) hi (by omega))) (fun k i f _ _ _ h43 _ => hD k i f h43)
                have hFd : qm_fok (qa_up (qa_up w 7 i t 0) 2 i 13 (B j)) := by
                  obtain ⟨F9, g1, g2⟩ := hF
                  exact ⟨F9, g1, by rw [qa_up_x (by omega), qa_up_x (by omega)]; exact g2⟩
                have q28 : u 28 0 i = w 2 i 11 := by rw [hD 28 0 i (by decide), qa_up_k (by decide), qa_up_k (by decide)]; exact qr_msk hR hi
                have q31 : u 31 0 j = v 31 0 j := by rw [hD 31 0 j (by decide), qa_up_k (by decide), qa_up_k (by decide)]
                have q29 : u 29 0 i = B j := by rw [hD 29 0 i (by decide), qa_up_s]
                refine lv_iload hx hb d_MD_vote_184 (lv_at hl 0 rfl) ?_
                refine lv_aload_n hx hb d_MD_vote_186 rfl (lv_at hl 3 rfl) ?_
                refine qa_get (k := 22) (i := 0) (f := 0) (val := .int (nI (qa_n y))) E hC Nat.one_pos rfl rfl (by decide) f_MD_73 rfl rfl d_MD_vote_187 ?_
                refine lv_icmp_ge hx hb d_MD_vote_190 rfl (fun h9 => absurd h9 (nI_ge hj (by omega))) (fun _ => ?_)
                refine lv_aload_n hx hb d_MD_vote_193 rfl (lv_at hl 3 rfl) ?_
                refine lv_iload hx hb d_MD_vote_194 (lv_at hl 0 rfl) ?_
                refine lv_iload_n hx hb d_MD_vote_196 rfl (lv_at hl 4 rfl) ?_
                refine qa_pV (k := 22) (i := 0) (As := [.int (nI j), .int (nI i)]) E hC (c_MD_through l y u j i hj hi (qa_up (qa_up w 7 i t 0) 2 i 13 (B j)) hRd) Nat.one_pos rfl rfl k_MD_97 (qa_fitR (by decide) (by decide)) rfl hl.1 rfl (Nat.le_of_ble_eq_true rfl) d_MD_vote_197 ?_
                rw [qm_hr_u]
                refine lv_if_eq hx hb d_MD_vote_200 rfl (fun h200 => ?_) (fun h200 => ?_)
                · refine lv_iconst (v := 0) hx hb d_MD_vote_226 (by decide) ?_
                  refine lv_istore hx hb d_MD_vote_227 hl (by decide) rfl (fun ls hl => ?_)
                  have hl : lv_has ls 10 [(8, .int 0), (7, .int (nI j)), (6, .int 0), (5, .int 0), (0, .ref (qa_a y 22 0)), (1, .int (nI i)), (2, .int (nI t))] := hl
                  refine lv_iload hx hb d_MD_vote_229 (lv_at hl 3 rfl) ?_
                  refine lv_if_eq hx hb d_MD_vote_231 rfl (fun _ => ?_) (fun h9 => absurd rfl h9)
                  refine lv_iinc (v := nI (j + 1)) hx hb d_MD_vote_272 hl (k := 1) rfl (nI_1 j) (by decide) rfl (fun ls hl => ?_)
                  have hl : lv_has ls 10 [(7, .int (nI (j + 1))), (8, .int 0), (6, .int 0), (5, .int 0), (0, .ref (qa_a y 22 0)), (1, .int (nI i)), (2, .int (nI t))] := hl
                  refine lv_goto hx hb d_MD_vote_275 rfl ?_
                  have e5 : B (j + 1) = B j := by rw [hB]
                  refine ihD (j + 1) u H locs ls (by omega) hC (fun c b f h => ?_) (lv_sub hl [0, 2, 3, 4, 5, 6] rfl)
                  rw [e5]; exact hD c b f h
                · refine lv_aload_n hx hb d_MD_vote_203 rfl (lv_at hl 3 rfl) ?_
                  refine lv_iload hx hb d_MD_vote_204 (lv_at hl 0 rfl) ?_
                  refine lv_iload_n hx hb d_MD_vote_206 rfl (lv_at hl 4 rfl) ?_
                  refine lv_aload_n hx hb d_MD_vote_207 rfl (lv_at hl 3 rfl) ?_
                  refine qa_get (k := 22) (i := 0) (f := 13) (val := .ref (qa_a y 31 0)) E hC Nat.one_pos rfl rfl (by decide) f_MD_34 rfl rfl d_MD_vote_208 ?_
                  refine lv_iload hx hb d_MD_vote_211 (lv_at hl 0 rfl) ?_
                  refine qa_ild (k := 31) (i := 0) (j := j) E hC Nat.one_pos rfl rfl rfl (show j < 7 by omega) d_MD_vote_213 ?_
                  refine qa_pV (k := 22) (i := 0) (As := [.int (nI j), .int (nI i), .int (u 31 0 j)]) E hC (c_MD_says l y u j i (u 31 0 j) hj hi (qa_up (qa_up w 7 i t 0) 2 i 13 (B j)) hRd hFd) Nat.one_pos rfl rfl k_MD_100 (qa_fitR (by decide) (by decide)) rfl hl.1 rfl (Nat.le_of_ble_eq_true rfl) d_MD_vote_214 ?_
                  rw [qm_sy_u, q31]
                  refine W.eq (g2 := F0 m 217 ls [.int (qm_sr w (v 31 0) i j)]) rfl ?_
                  refine lv_iload hx hb d_MD_vote_217 (lv_at hl 1 rfl) ?_
                  refine lv_icmp_ne hx hb d_MD_vote_219 rfl (fun h219 => ?_) (fun h219 => ?_)
                  · refine lv_iconst (v := 0) hx hb d_MD_vote_226 (by decide) ?_
                    refine lv_istore hx hb d_MD_vote_227 hl (by decide) rfl (fun ls hl => ?_)
                    have hl : lv_has ls 10 [(8, .int 0), (7, .int (nI j)), (6, .int 0), (5, .int 0), (0, .ref (qa_a y 22 0)), (1, .int (nI i)), (2, .int (nI t))] := hl
                    refine lv_iload hx hb d_MD_vote_229 (lv_at hl 3 rfl) ?_
                    refine lv_if_eq hx hb d_MD_vote_231 rfl (fun _ => ?_) (fun h9 => absurd rfl h9)
                    refine lv_iinc (v := nI (j + 1)) hx hb d_MD_vote_272 hl (k := 1) rfl (nI_1 j) (by decide) rfl (fun ls hl => ?_)
                    have hl : lv_has ls 10 [(7, .int (nI (j + 1))), (8, .int 0), (6, .int 0), (5, .int 0), (0, .ref (qa_a y 22 0)), (1, .int (nI i)), (2, .int (nI t))] := hl
                    refine lv_goto hx hb d_MD_vote_275 rfl ?_
                    have e5 : B (j + 1) = B j := by rw [hB]
                    refine ihD (j + 1) u H locs ls (by omega) hC (fun c b f h => ?_) (lv_sub hl [0, 2, 3, 4, 5, 6] rfl)
                    rw [e5]; exact hD c b f h
                  · refine lv_iconst (v := 1) hx hb d_MD_vote_222 (by decide) ?_
                    refine lv_goto hx hb d_MD_vote_223 rfl ?_
                    refine lv_istore hx hb d_MD_vote_227 hl (by decide) rfl (fun ls hl => ?_)
                    have hl : lv_has ls 10 [(8, .int 1), (7, .int (nI j)), (6, .int 0), (5, .int 0), (0, .ref (qa_a y 22 0)), (1, .int (nI i)), (2, .int (nI t))] := hl
                    refine lv_iload hx hb d_MD_vote_229 (lv_at hl 3 rfl) ?_
                    refine lv_if_eq hx hb d_MD_vote_231 rfl (fun _ => ?_) (fun h9 => absurd rfl h9)
                    refine lv_iinc (v := nI (j + 1)) hx hb d_MD_vote_272 hl (k := 1) rfl (nI_1 j) (by decide) rfl (fun ls hl => ?_)
                    have hl : lv_has ls 10 [(7, .int (nI (j + 1))), (8, .int 1), (6, .int 0), (5, .int 0), (0, .ref (qa_a y 22 0)), (1, .int (nI i)), (2, .int (nI t))] := hl
                    refine lv_goto hx hb d_MD_vote_275 rfl ?_
                    have e5 : B (j + 1) = B j := by rw [hB]
                    refine ihD (j + 1) u H locs ls (by omega) hC (fun c b f h => ?_) (lv_sub hl [0, 2, 3, 4, 5, 6] rfl)
                    rw [e5]; exact hD c b f h
            refine loopD (qa_n y) 0 _ H locs ls (by omega) hC (fun c b f h => ?_) (lv_sub hl [0, 1, 2, 5, 6, 7] rfl)
            rw [hB0]
            by_cases z : c = 29 ∧ b = 0 ∧ f = i
            · obtain ⟨rfl, rfl, rfl⟩ := z
              rw [qa_up_s, qa_up_k (by decide)]; exact hA.1 _ _ _ (by decide)
            · rw [qa_up_x z]
              by_cases z2 : c = 32 ∧ b = 0 ∧ f = 4 * i + t
              · obtain ⟨rfl, rfl, rfl⟩ := z2
                rw [qa_up_s, qa_up_s]
              · rw [qa_up_x z2, qa_up_x z2]; exact hA.1 c b f h
          · have ew := gin va hb1
            obtain ⟨B, hB⟩ : ∃ B : Nat → Int32, B = (qm_bo y w (v 31 0) i va (v 29 0 i)) := ⟨_, rfl⟩
            have hB0 : B 0 = v 29 0 i := by rw [hB]; rfl
            have hBn : B (qa_n y) = qm_va y w (v 31 0) i (v 29 0 i) := by
              rw [hB, qm_bo_ds hn7 hi (hM i hi).1]
              unfold qm_va
              rw [ew]
            have hwn : (qm_wn y w (v 31 0) i).getD 0 = va := by rw [ew]; rfl
            refine lv_iload hx hb d_MD_vote_90 (lv_at hl 0 rfl) ?_
            refine lv_iload_n hx hb d_MD_vote_92 rfl (lv_at hl 4 rfl) ?_
            refine lv_icmp_ge hx hb d_MD_vote_93 rfl (fun _ => ?_) (fun h9 => absurd (nI_le (Nat.le_refl _) (by have := gl (qa_n y); omega)) h9)
            refine lv_aload_n hx hb d_MD_vote_169 rfl (lv_at hl 5 rfl) ?_
            refine qa_get (k := 22) (i := 0) (f := 14) (val := .ref (qa_a y 32 0)) E hC Nat.one_pos rfl rfl (by decide) f_MD_37 rfl rfl d_MD_vote_170 ?_
            refine lv_iconst (v := 4) hx hb d_MD_vote_173 (by decide) ?_
            refine lv_iload_n hx hb d_MD_vote_174 rfl (lv_at hl 6 rfl) ?_
            refine lv_imul hx hb d_MD_vote_175 ?_
            refine lv_iload_n hx hb d_MD_vote_176 rfl (lv_at hl 7 rfl) ?_
            refine lv_iadd hx hb d_MD_vote_177 ?_
            refine lv_iload hx hb d_MD_vote_178 (lv_at hl 1 rfl) ?_
            refine qa_ist (k := 32) (i := 0) (j := ((4 * i) + t)) E hC Nat.one_pos rfl rfl (qn_add (qn_mul rfl rfl) rfl) (show (4 * i) + t < 32 by omega) d_MD_vote_180 (fun H locs hC => ?_)
            refine lv_iconst (v := 0) hx hb d_MD_vote_181 (by decide) ?_
            refine lv_istore hx hb d_MD_vote_182 hl (by decide) rfl (fun ls hl => ?_)
            have hl : lv_has ls 10 [(7, .int 0), (6, .int va), (5, .int 1), (4, .int (nI (qm_sz w i))), (3, .int (nI ((G (qa_n y)).length))), (0, .ref (qa_a y 22 0)), (1, .int (nI i)), (2, .int (nI t))] := hl
            have loopD : ∀ (d j : Nat) (u : qa_M) (H : Heap) (locs : List Loc) (ls : Array Slot), j + d = qa_n y → qa_C y u s H locs → (∀ c b f, c ≠ 43 → u c b f = qa_up (qa_up v 32 0 (4 * i + t) va) 29 0 i (B j) c b f) → lv_has ls 10 [(7, .int (nI j)), (6, .int va), (5, .int 1), (0, .ref (qa_a y 22 0)), (1, .int (nI i)), (2, .int (nI t))] → W p l e (qa_R 2) s m [.ref (qa_a y 22 0), .int (nI i), .int (nI t)].toArray below meth c H locs 0 0 (MQ below (va_Qv (fun u => ∀ c b f, c ≠ 43 → u c b f = qa_up (qa_up v 32 0 (4 * i + t) ((qm_wn y w (v 31 0) i).getD 0)) 29 0 i (qm_va y w (v 31 0) i (v 29 0 i)) c b f) (fun u t => qa_W y u t) (qa_A y)) [.ref (qa_a y 22 0), .int (nI i), .int (nI t)].toArray s 0 0 (qa_A y)) (F0 m 184 ls []) := by
              intro d
              induction d with
              | zero =>
                intro j u H locs ls hkd hC hD hl
                obtain rfl : qa_n y = j := by omega
                refine lv_iload hx hb d_MD_vote_184 (lv_at hl 0 rfl) ?_
                refine lv_aload_n hx hb d_MD_vote_186 rfl (lv_at hl 3 rfl) ?_
                refine qa_get (k := 22) (i := 0) (f := 0) (val := .int (nI (qa_n y))) E hC Nat.one_pos rfl rfl (by decide) f_MD_73 rfl rfl d_MD_vote_187 ?_
                refine lv_icmp_ge hx hb d_MD_vote_190 rfl (fun _ => ?_) (fun h9 => absurd (nI_le (Nat.le_refl _) (by omega)) h9)
                exact qa_mvret E hC hr hlocks (fun c b f h => by rw [hD c b f h, hwn, hBn]) d_MD_vote_278
              | succ d ihD =>
                intro j u H locs ls hkd hC hD hl
                have hj : j < qa_n y := by omega
                have hRd : qm_RM (qa_n y) (qa_up (qa_up w 7 i t va) 2 i 13 (B j)) u := qm_RM_n (qm_RM_up hn7 (qm_RM_up hn7 hR (qm_mu_w hi ht)) (qm_mu_2 (k := 29) (c := 13) hi (by omega))) (fun k i f _ _ _ h43 _ => hD k i f h43)
                have hFd : qm_fok (qa_up (qa_up w 7 i t va) 2 i 13 (B j)) := by
                  obtain ⟨F9, g1, g2⟩ := hF
                  exact ⟨F9, g1, by rw [qa_up_x (by omega), qa_up_x (by omega)]; exact g2⟩
                have q28 : u 28 0 i = w 2 i 11 := by rw [hD 28 0 i (by decide), qa_up_k (by decide), qa_up_k (by decide)]; exact qr_msk hR hi
                have q31 : u 31 0 j = v 31 0 j := by rw [hD 31 0 j (by decide), qa_up_k (by decide), qa_up_k (by decide)]
                have q29 : u 29 0 i = B j := by rw [hD 29 0 i (by decide), qa_up_s]
                refine lv_iload hx hb d_MD_vote_184 (lv_at hl 0 rfl) ?_
                refine lv_aload_n hx hb d_MD_vote_186 rfl (lv_at hl 3 rfl) ?_
                refine qa_get (k := 22) (i := 0) (f := 0) (val := .int (nI (qa_n y))) E hC Nat.one_pos rfl rfl (by decide) f_MD_73 rfl rfl d_MD_vote_187 ?_
                refine lv_icmp_ge hx hb d_MD_vote_190 rfl (fun h9 => absurd h9 (nI_ge hj (by omega))) (fun _ => ?_)
                refine lv_aload_n hx hb d_MD_vote_193 rfl (lv_at hl 3 rfl) ?_
                refine lv_iload hx hb d_MD_vote_194 (lv_at hl 0 rfl) ?_
                refine lv_iload_n hx hb d_MD_vote_196 rfl (lv_at hl 4 rfl) ?_
                refine qa_pV (k := 22) (i := 0) (As := [.int (nI j), .int (nI i)]) E hC (c_MD_through l y u j i hj hi (qa_up (qa_up w 7 i t va) 2 i 13 (B j)) hRd) Nat.one_pos rfl rfl k_MD_97 (qa_fitR (by decide) (by decide)) rfl hl.1 rfl (Nat.le_of_ble_eq_true rfl) d_MD_vote_197 ?_
                rw [qm_hr_u]
                refine lv_if_eq hx hb d_MD_vote_200 rfl (fun h200 => ?_) (fun h200 => ?_)
                · refine lv_iconst (v := 0) hx hb d_MD_vote_226 (by decide) ?_
                  refine lv_istore hx hb d_MD_vote_227 hl (by decide) rfl (fun ls hl => ?_)
                  have hl : lv_has ls 10 [(8, .int 0), (7, .int (nI j)), (6, .int va), (5, .int 1), (0, .ref (qa_a y 22 0)), (1, .int (nI i)), (2, .int (nI t))] := hl
                  refine lv_iload hx hb d_MD_vote_229 (lv_at hl 3 rfl) ?_
                  refine lv_if_eq hx hb d_MD_vote_231 rfl (fun h9 => absurd h9 (by decide)) (fun _ => ?_)
                  refine lv_iload hx hb d_MD_vote_234 (lv_at hl 1 rfl) ?_
                  refine lv_iload_n hx hb d_MD_vote_236 rfl (lv_at hl 5 rfl) ?_
                  refine lv_icmp_eq hx hb d_MD_vote_237 rfl (fun h237 => ?_) (fun h237 => ?_)
                  · refine lv_iinc (v := nI (j + 1)) hx hb d_MD_vote_272 hl (k := 1) rfl (nI_1 j) (by decide) rfl (fun ls hl => ?_)
                    have hl : lv_has ls 10 [(7, .int (nI (j + 1))), (8, .int 0), (6, .int va), (5, .int 1), (0, .ref (qa_a y 22 0)), (1, .int (nI i)), (2, .int (nI t))] := hl
                    refine lv_goto hx hb d_MD_vote_275 rfl ?_
                    have e5 : B (j + 1) = qm_bo y w (v 31 0) i va (v 29 0 i) j := by rw [hB]; exact if_neg (fun z => z.1 ((nI_eq (by omega) (by omega)).mp h237))
                    refine ihD (j + 1) u H locs ls (by omega) hC (fun c b f h => ?_) (lv_sub hl [0, 2, 3, 4, 5, 6] rfl)
                    rw [e5, ← congrFun hB j]; exact hD c b f h
                  · refine lv_aload_n hx hb d_MD_vote_240 rfl (lv_at hl 4 rfl) ?_
                    refine lv_iload_n hx hb d_MD_vote_241 rfl (lv_at hl 5 rfl) ?_
                    refine lv_iload hx hb d_MD_vote_242 (lv_at hl 1 rfl) ?_
                    refine qa_pV (k := 22) (i := 0) (As := [.int (nI i), .int (nI j)]) E hC (c_MD_member l y u i (nI j) hi) Nat.one_pos rfl rfl k_MD_90 (qa_fitR (by decide) (by decide)) rfl hl.1 rfl (Nat.le_of_ble_eq_true rfl) d_MD_vote_244 ?_
                    refine lv_if_eq hx hb d_MD_vote_247 rfl (fun h247 => ?_) (fun h247 => ?_)
                    · refine lv_iinc (v := nI (j + 1)) hx hb d_MD_vote_272 hl (k := 1) rfl (nI_1 j) (by decide) rfl (fun ls hl => ?_)
                      have hl : lv_has ls 10 [(7, .int (nI (j + 1))), (8, .int 0), (6, .int va), (5, .int 1), (0, .ref (qa_a y 22 0)), (1, .int (nI i)), (2, .int (nI t))] := hl
                      refine lv_goto hx hb d_MD_vote_275 rfl ?_
                      have e5 : B (j + 1) = qm_bo y w (v 31 0) i va (v 29 0 i) j := by rw [hB]; exact if_neg (fun z => by have z2 := z.2.1; rw [← q28, qb_e0 h247] at z2; cases z2)
                      refine ihD (j + 1) u H locs ls (by omega) hC (fun c b f h => ?_) (lv_sub hl [0, 2, 3, 4, 5, 6] rfl)
                      rw [e5, ← congrFun hB j]; exact hD c b f h
                    · refine lv_iload hx hb d_MD_vote_250 (lv_at hl 0 rfl) ?_
                      refine lv_if_ne hx hb d_MD_vote_252 rfl (fun h9 => absurd rfl h9) (fun _ => ?_)
                      refine lv_aload_n hx hb d_MD_vote_255 rfl (lv_at hl 4 rfl) ?_
                      refine qa_get (k := 22) (i := 0) (f := 11) (val := .ref (qa_a y 29 0)) E hC Nat.one_pos rfl rfl (by decide) f_MD_28 rfl rfl d_MD_vote_256 ?_
                      refine lv_iload_n hx hb d_MD_vote_259 rfl (lv_at hl 5 rfl) ?_
                      refine lv_aload_n hx hb d_MD_vote_260 rfl (lv_at hl 4 rfl) ?_
                      refine qa_get (k := 22) (i := 0) (f := 11) (val := .ref (qa_a y 29 0)) E hC Nat.one_pos rfl rfl (by decide) f_MD_28 rfl rfl d_MD_vote_261 ?_
                      refine lv_iload_n hx hb d_MD_vote_264 rfl (lv_at hl 5 rfl) ?_
                      refine qa_ild (k := 29) (i := 0) (j := i) E hC Nat.one_pos rfl rfl rfl (show i < 7 by omega) d_MD_vote_265 ?_
                      refine lv_iconst (v := 1) hx hb d_MD_vote_266 (by decide) ?_
                      refine lv_iload hx hb d_MD_vote_267 (lv_at hl 1 rfl) ?_
                      refine lv_ishl hx hb d_MD_vote_269 ?_
                      refine lv_ior hx hb d_MD_vote_270 ?_
                      refine qa_ist (k := 29) (i := 0) (j := i) E hC Nat.one_pos rfl rfl rfl (show i < 7 by omega) d_MD_vote_271 (fun H locs hC => ?_)
                      refine lv_iinc (v := nI (j + 1)) hx hb d_MD_vote_272 hl (k := 1) rfl (nI_1 j) (by decide) rfl (fun ls hl => ?_)
                      have hl : lv_has ls 10 [(7, .int (nI (j + 1))), (8, .int 0), (6, .int va), (5, .int 1), (0, .ref (qa_a y 22 0)), (1, .int (nI i)), (2, .int (nI t))] := hl
                      refine lv_goto hx hb d_MD_vote_275 rfl ?_
                      have e5 : B (j + 1) = qm_ad (qm_bo y w (v 31 0) i va (v 29 0 i) j) j := by rw [hB]; exact if_pos ⟨fun z => h237 (by rw [z]), by rw [← q28]; exact qb_n0 h247, fun z => by have z2 := z.1; rw [qb_e0 h200] at z2; cases z2⟩
                      refine ihD (j + 1) _ H locs ls (by omega) hC (fun c b f h => ?_) (lv_sub hl [0, 2, 3, 4, 5, 6] rfl)
                      rw [e5]
                      by_cases z : c = 29 ∧ b = 0 ∧ f = i
                      · obtain ⟨rfl, rfl, rfl⟩ := z
                        rw [qa_up_s, qa_up_s, q29, hB]
                        rfl
                      · rw [qa_up_x z, qa_up_x z, hD c b f h, qa_up_x z]
                · refine lv_aload_n hx hb d_MD_vote_203 rfl (lv_at hl 3 rfl) ?_
                  refine lv_iload hx hb d_MD_vote_204 (lv_at hl 0 rfl) ?_
                  refine lv_iload_n hx hb d_MD_vote_206 rfl (lv_at hl 4 rfl) ?_
                  refine lv_aload_n hx hb d_MD_vote_207 rfl (lv_at hl 3 rfl) ?_
                  refine qa_get (k := 22) (i := 0) (f := 13) (val := .ref (qa_a y 31 0)) E hC Nat.one_pos rfl rfl (by decide) f_MD_34 rfl rfl d_MD_vote_208 ?_
                  refine lv_iload hx hb d_MD_vote_211 (lv_at hl 0 rfl) ?_
                  refine qa_ild (k := 31) (i := 0) (j := j) E hC Nat.one_pos rfl rfl rfl (show j < 7 by omega) d_MD_vote_213 ?_
                  refine qa_pV (k := 22) (i := 0) (As := [.int (nI j), .int (nI i), .int (u 31 0 j)]) E hC (c_MD_says l y u j i (u 31 0 j) hj hi (qa_up (qa_up w 7 i t va) 2 i 13 (B j)) hRd hFd) Nat.one_pos rfl rfl k_MD_100 (qa_fitR (by decide) (by decide)) rfl hl.1 rfl (Nat.le_of_ble_eq_true rfl) d_MD_vote_214 ?_
                  rw [qm_sy_u, q31]
                  refine W.eq (g2 := F0 m 217 ls [.int (qm_sr w (v 31 0) i j)]) rfl ?_
                  refine lv_iload hx hb d_MD_vote_217 (lv_at hl 1 rfl) ?_
                  refine lv_icmp_ne hx hb d_MD_vote_219 rfl (fun h219 => ?_) (fun h219 => ?_)
                  · refine lv_iconst (v := 0) hx hb d_MD_vote_226 (by decide) ?_
                    refine lv_istore hx hb d_MD_vote_227 hl (by decide) rfl (fun ls hl => ?_)
                    have hl : lv_has ls 10 [(8, .int 0), (7, .int (nI j)), (6, .int va), (5, .int 1), (0, .ref (qa_a y 22 0)), (1, .int (nI i)), (2, .int (nI t))] := hl
                    refine lv_iload hx hb d_MD_vote_229 (lv_at hl 3 rfl) ?_
                    refine lv_if_eq hx hb d_MD_vote_231 rfl (fun h9 => absurd h9 (by decide)) (fun _ => ?_)
                    refine lv_iload hx hb d_MD_vote_234 (lv_at hl 1 rfl) ?_
                    refine lv_iload_n hx hb d_MD_vote_236 rfl (lv_at hl 5 rfl) ?_
                    refine lv_icmp_eq hx hb d_MD_vote_237 rfl (fun h237 => ?_) (fun h237 => ?_)
                    · refine lv_iinc (v := nI (j + 1)) hx hb d_MD_vote_272 hl (k := 1) rfl (nI_1 j) (by decide) rfl (fun ls hl => ?_)
                      have hl : lv_has ls 10 [(7, .int (nI (j + 1))), (8, .int 0), (6, .int va), (5, .int 1), (0, .ref (qa_a y 22 0)), (1, .int (nI i)), (2, .int (nI t))] := hl
                      refine lv_goto hx hb d_MD_vote_275 rfl ?_
                      have e5 : B (j + 1) = qm_bo y w (v 31 0) i va (v 29 0 i) j := by rw [hB]; exact if_neg (fun z => z.1 ((nI_eq (by omega) (by omega)).mp h237))
                      refine ihD (j + 1) u H locs ls (by omega) hC (fun c b f h => ?_) (lv_sub hl [0, 2, 3, 4, 5, 6] rfl)
                      rw [e5, ← congrFun hB j]; exact hD c b f h
                    · refine lv_aload_n hx hb d_MD_vote_240 rfl (lv_at hl 4 rfl) ?_
                      refine lv_iload_n hx hb d_MD_vote_241 rfl (lv_at hl 5 rfl) ?_
                      refine lv_iload hx hb d_MD_vote_242 (lv_at hl 1 rfl) ?_
                      refine qa_pV (k := 22) (i := 0) (As := [.int (nI i), .int (nI j)]) E hC (c_MD_member l y u i (nI j) hi) Nat.one_pos rfl rfl k_MD_90 (qa_fitR (by decide) (by decide)) rfl hl.1 rfl (Nat.le_of_ble_eq_true rfl) d_MD_vote_244 ?_
                      refine lv_if_eq hx hb d_MD_vote_247 rfl (fun h247 => ?_) (fun h247 => ?_)
                      · refine lv_iinc (v := nI (j + 1)) hx hb d_MD_vote_272 hl (k := 1) rfl (nI_1 j) (by decide) rfl (fun ls hl => ?_)
                        have hl : lv_has ls 10 [(7, .int (nI (j + 1))), (8, .int 0), (6, .int va), (5, .int 1), (0, .ref (qa_a y 22 0)), (1, .int (nI i)), (2, .int (nI t))] := hl
                        refine lv_goto hx hb d_MD_vote_275 rfl ?_
                        have e5 : B (j + 1) = qm_bo y w (v 31 0) i va (v 29 0 i) j := by rw [hB]; exact if_neg (fun z => by have z2 := z.2.1; rw [← q28, qb_e0 h247] at z2; cases z2)
                        refine ihD (j + 1) u H locs ls (by omega) hC (fun c b f h => ?_) (lv_sub hl [0, 2, 3, 4, 5, 6] rfl)
                        rw [e5, ← congrFun hB j]; exact hD c b f h
                      · refine lv_iload hx hb d_MD_vote_250 (lv_at hl 0 rfl) ?_
                        refine lv_if_ne hx hb d_MD_vote_252 rfl (fun h9 => absurd rfl h9) (fun _ => ?_)
                        refine lv_aload_n hx hb d_MD_vote_255 rfl (lv_at hl 4 rfl) ?_
                        refine qa_get (k := 22) (i := 0) (f := 11) (val := .ref (qa_a y 29 0)) E hC Nat.one_pos rfl rfl (by decide) f_MD_28 rfl rfl d_MD_vote_256 ?_
                        refine lv_iload_n hx hb d_MD_vote_259 rfl (lv_at hl 5 rfl) ?_
                        refine lv_aload_n hx hb d_MD_vote_260 rfl (lv_at hl 4 rfl) ?_
                        refine qa_get (k := 22) (i := 0) (f := 11) (val := .ref (qa_a y 29 0)) E hC Nat.one_pos rfl rfl (by decide) f_MD_28 rfl rfl d_MD_vote_261 ?_
                        refine lv_iload_n hx hb d_MD_vote_264 rfl (lv_at hl 5 rfl) ?_
                        refine qa_ild (k := 29) (i := 0) (j := i) E hC Nat.one_pos rfl rfl rfl (show i < 7 by omega) d_MD_vote_265 ?_
                        refine lv_iconst (v := 1) hx hb d_MD_vote_266 (by decide) ?_
                        refine lv_iload hx hb d_MD_vote_267 (lv_at hl 1 rfl) ?_
                        refine lv_ishl hx hb d_MD_vote_269 ?_
                        refine lv_ior hx hb d_MD_vote_270 ?_
                        refine qa_ist (k := 29) (i := 0) (j := i) E hC Nat.one_pos rfl rfl rfl (show i < 7 by omega) d_MD_vote_271 (fun H locs hC => ?_)
                        refine lv_iinc (v := nI (j + 1)) hx hb d_MD_vote_272 hl (k := 1) rfl (nI_1 j) (by decide) rfl (fun ls hl => ?_)
                        have hl : lv_has ls 10 [(7, .int (nI (j + 1))), (8, .int 0), (6, .int va), (5, .int 1), (0, .ref (qa_a y 22 0)), (1, .int (nI i)), (2, .int (nI t))] := hl
                        refine lv_goto hx hb d_MD_vote_275 rfl ?_
                        have e5 : B (j + 1) = qm_ad (qm_bo y w (v 31 0) i va (v 29 0 i) j) j := by rw [hB]; exact if_pos ⟨fun z => h237 (by rw [z]), by rw [← q28]; exact qb_n0 h247, fun z => h219 z.2⟩
                        refine ihD (j + 1) _ H locs ls (by omega) hC (fun c b f h => ?_) (lv_sub hl [0, 2, 3, 4, 5, 6] rfl)
                        rw [e5]
                        by_cases z : c = 29 ∧ b = 0 ∧ f = i
                        · obtain ⟨rfl, rfl, rfl⟩ := z
                          rw [qa_up_s, qa_up_s, q29, hB]
                          rfl
                        · rw [qa_up_x z, qa_up_x z, hD c b f h, qa_up_x z]
                  · refine lv_iconst (v := 1) hx hb d_MD_vote_222 (by decide) ?_
                    refine lv_goto hx hb d_MD_vote_223 rfl ?_
                    refine lv_istore hx hb d_MD_vote_227 hl (by decide) rfl (fun ls hl => ?_)
                    have hl : lv_has ls 10 [(8, .int 1), (7, .int (nI j)), (6, .int va), (5, .int 1), (0, .ref (qa_a y 22 0)), (1, .int (nI i)), (2, .int (nI t))] := hl
                    refine lv_iload hx hb d_MD_vote_229 (lv_at hl 3 rfl) ?_
                    refine lv_if_eq hx hb d_MD_vote_231 rfl (fun h9 => absurd h9 (by decide)) (fun _ => ?_)
                    refine lv_iload hx hb d_MD_vote_234 (lv_at hl 1 rfl) ?_
                    refine lv_iload_n hx hb d_MD_vote_236 rfl (lv_at hl 5 rfl) ?_
                    refine lv_icmp_eq hx hb d_MD_vote_237 rfl (fun h237 => ?_) (fun h237 => ?_)
                    · refine lv_iinc (v := nI (j + 1)) hx hb d_MD_vote_272 hl (k := 1) rfl (nI_1 j) (by decide) rfl (fun ls hl => ?_)
                      have hl : lv_has ls 10 [(7, .int (nI (j + 1))), (8, .int 1), (6, .int va), (5, .int 1), (0, .ref (qa_a y 22 0)), (1, .int (nI i)), (2, .int (nI t))] := hl
                      refine lv_goto hx hb d_MD_vote_275 rfl ?_
                      have e5 : B (j + 1) = qm_bo y w (v 31 0) i va (v 29 0 i) j := by rw [hB]; exact if_neg (fun z => z.1 ((nI_eq (by omega) (by omega)).mp h237))
                      refine ihD (j + 1) u H locs ls (by omega) hC (fun c b f h => ?_) (lv_sub hl [0, 2, 3, 4, 5, 6] rfl)
                      rw [e5, ← congrFun hB j]; exact hD c b f h
                    · refine lv_aload_n hx hb d_MD_vote_240 rfl (lv_at hl 4 rfl) ?_
                      refine lv_iload_n hx hb d_MD_vote_241 rfl (lv_at hl 5 rfl) ?_
                      refine lv_iload hx hb d_MD_vote_242 (lv_at hl 1 rfl) ?_
                      refine qa_pV (k := 22) (i := 0) (As := [.int (nI i), .int (nI j)]) E hC (c_MD_member l y u i (nI j) hi) Nat.one_pos rfl rfl k_MD_90 (qa_fitR (by decide) (by decide)) rfl hl.1 rfl (Nat.le_of_ble_eq_true rfl) d_MD_vote_244 ?_
                      refine lv_if_eq hx hb d_MD_vote_247 rfl (fun h247 => ?_) (fun h247 => ?_)
                      · refine lv_iinc (v := nI (j + 1)) hx hb d_MD_vote_272 hl (k := 1) rfl (nI_1 j) (by decide) rfl (fun ls hl => ?_)
                        have hl : lv_has ls 10 [(7, .int (nI (j + 1))), (8, .int 1), (6, .int va), (5, .int 1), (0, .ref (qa_a y 22 0)), (1, .int (nI i)), (2, .int (nI t))] := hl
                        refine lv_goto hx hb d_MD_vote_275 rfl ?_
                        have e5 : B (j + 1) = qm_bo y w (v 31 0) i va (v 29 0 i) j := by rw [hB]; exact if_neg (fun z => by have z2 := z.2.1; rw [← q28, qb_e0 h247] at z2; cases z2)
                        refine ihD (j + 1) u H locs ls (by omega) hC (fun c b f h => ?_) (lv_sub hl [0, 2, 3, 4, 5, 6] rfl)
                        rw [e5, ← congrFun hB j]; exact hD c b f h
                      · refine lv_iload hx hb d_MD_vote_250 (lv_at hl 0 rfl) ?_
                        refine lv_if_ne hx hb d_MD_vote_252 rfl (fun _ => ?_) (fun h9 => absurd h9 (by decide))
                        refine lv_iinc (v := nI (j + 1)) hx hb d_MD_vote_272 hl (k := 1) rfl (nI_1 j) (by decide) rfl (fun ls hl => ?_)
                        have hl : lv_has ls 10 [(7, .int (nI (j + 1))), (8, .int 1), (6, .int va), (5, .int 1), (0, .ref (qa_a y 22 0)), (1, .int (nI i)), (2, .int (nI t))] := hl
                        refine lv_goto hx hb d_MD_vote_275 rfl ?_
                        have e5 : B (j + 1) = qm_bo y w (v 31 0) i va (v 29 0 i) j := by rw [hB]; exact if_neg (fun z => z.2.2 ⟨qb_n0 h200, h219⟩)
                        refine ihD (j + 1) u H locs ls (by omega) hC (fun c b f h => ?_) (lv_sub hl [0, 2, 3, 4, 5, 6] rfl)
                        rw [e5, ← congrFun hB j]; exact hD c b f h
            refine loopD (qa_n y) 0 _ H locs ls (by omega) hC (fun c b f h => ?_) (lv_sub hl [0, 1, 2, 5, 6, 7] rfl)
            rw [hB0]
            by_cases z : c = 29 ∧ b = 0 ∧ f = i
            · obtain ⟨rfl, rfl, rfl⟩ := z
              rw [qa_up_s, qa_up_k (by decide)]; exact hA.1 _ _ _ (by decide)
            · rw [qa_up_x z]
              by_cases z2 : c = 32 ∧ b = 0 ∧ f = 4 * i + t
              · obtain ⟨rfl, rfl, rfl⟩ := z2
                rw [qa_up_s, qa_up_s]
              · rw [qa_up_x z2, qa_up_x z2]; exact hA.1 c b f h
        | succ d ih =>
          intro k wn va ls hkd hB hl
          have hk : k < (G (qa_n y)).length := by omega
          refine lv_iload hx hb d_MD_vote_90 (lv_at hl 0 rfl) ?_
          refine lv_iload_n hx hb d_MD_vote_92 rfl (lv_at hl 4 rfl) ?_
          refine lv_icmp_ge hx hb d_MD_vote_93 rfl (fun h9 => absurd h9 (nI_ge hk (by have := gl (qa_n y); omega))) (fun _ => ?_)
          refine lv_iconst (v := 0) hx hb d_MD_vote_96 (by decide) ?_
          refine lv_istore hx hb d_MD_vote_97 hl (by decide) rfl (fun ls hl => ?_)
          have hl : lv_has ls 10 [(8, .int 0), (7, .int (nI k)), (6, .int va), (5, .int wn), (4, .int (nI (qm_sz w i))), (3, .int (nI ((G (qa_n y)).length))), (0, .ref (qa_a y 22 0)), (1, .int (nI i)), (2, .int (nI t))] := hl
          refine lv_iconst (v := 0) hx hb d_MD_vote_99 (by decide) ?_
          refine lv_istore hx hb d_MD_vote_100 hl (by decide) rfl (fun ls hl => ?_)
          have hl : lv_has ls 10 [(9, .int 0), (8, .int 0), (7, .int (nI k)), (6, .int va), (5, .int wn), (4, .int (nI (qm_sz w i))), (3, .int (nI ((G (qa_n y)).length))), (0, .ref (qa_a y 22 0)), (1, .int (nI i)), (2, .int (nI t))] := hl
          have loop2 : ∀ (d q : Nat) (ls : Array Slot), q + d = (G (qa_n y)).length → lv_has ls 10 [(9, .int (nI q)), (8, .int (nI (qm_cs (u 43 0) (u 43 0 k) 0 q))), (7, .int (nI k)), (6, .int va), (5, .int wn), (4, .int (nI (qm_sz w i))), (3, .int (nI ((G (qa_n y)).length))), (0, .ref (qa_a y 22 0)), (1, .int (nI i)), (2, .int (nI t))] → W p l e (qa_R 2) s m [.ref (qa_a y 22 0), .int (nI i), .int (nI t)].toArray below meth c H locs 0 0 (MQ below (va_Qv (fun u => ∀ c b f, c ≠ 43 → u c b f = qa_up (qa_up v 32 0 (4 * i + t) ((qm_wn y w (v 31 0) i).getD 0)) 29 0 i (qm_va y w (v 31 0) i (v 29 0 i)) c b f) (fun u t => qa_W y u t) (qa_A y)) [.ref (qa_a y 22 0), .int (nI i), .int (nI t)].toArray s 0 0 (qa_A y)) (F0 m 102 ls []) := by
            intro d
            induction d with
            | zero =>
              intro q ls hkd hl
              obtain rfl : (G (qa_n y)).length = q := by omega
              refine lv_iload hx hb d_MD_vote_102 (lv_at hl 0 rfl) ?_
              refine lv_iload_n hx hb d_MD_vote_104 rfl (lv_at hl 6 rfl) ?_
              refine lv_icmp_ge hx hb d_MD_vote_105 rfl (fun _ => ?_) (fun h9 => absurd (nI_le (Nat.le_refl _) (by have := gl (qa_n y); omega)) h9)
              refine lv_iconst (v := 2) hx hb d_MD_vote_142 (by decide) ?_
              refine lv_iload hx hb d_MD_vote_143 (lv_at hl 1 rfl) ?_
              refine lv_imul hx hb d_MD_vote_145 ?_
              refine lv_iload hx hb d_MD_vote_146 (lv_at hl 5 rfl) ?_
              refine lv_icmp_le hx hb d_MD_vote_148 rfl (fun h148 => ?_) (fun h148 => ?_)
              · refine lv_iinc (v := nI (k + 1)) hx hb d_MD_vote_163 hl (k := 2) rfl (nI_1 k) (by decide) rfl (fun ls hl => ?_)
                have hl : lv_has ls 10 [(7, .int (nI (k + 1))), (9, .int (nI ((G (qa_n y)).length))), (8, .int (nI (qm_cs (u 43 0) (u 43 0 k) 0 ((G (qa_n y)).length)))), (6, .int va), (5, .int wn), (4, .int (nI (qm_sz w i))), (3, .int (nI ((G (qa_n y)).length))), (0, .ref (qa_a y 22 0)), (1, .int (nI i)), (2, .int (nI t))] := hl
                refine lv_goto hx hb d_MD_vote_166 rfl ?_
                have z8 : 2 * (G (qa_n y)).count (u 43 0 k) ≤ qm_sz w i := by
                  have := hcl (u 43 0 k)
                  rw [hcs, qm_2nI, nI_leI (by omega) (by omega)] at h148
                  exact h148
                refine ih (k + 1) wn va ls (by omega) ?_ (lv_sub hl [0, 3, 4, 5, 6, 7, 8, 9] rfl)
                rcases hB with ⟨z1, z2, z3⟩ | z1
                · exact Or.inl ⟨z1, z2, lt_s z3 z8⟩
                · exact Or.inr z1
              · refine lv_iconst (v := 1) hx hb d_MD_vote_151 (by decide) ?_
                refine lv_istore hx hb d_MD_vote_152 hl (by decide) rfl (fun ls hl => ?_)
                have hl : lv_has ls 10 [(5, .int 1), (9, .int (nI ((G (qa_n y)).length))), (8, .int (nI (qm_cs (u 43 0) (u 43 0 k) 0 ((G (qa_n y)).length)))), (7, .int (nI k)), (6, .int va), (4, .int (nI (qm_sz w i))), (3, .int (nI ((G (qa_n y)).length))), (0, .ref (qa_a y 22 0)), (1, .int (nI i)), (2, .int (nI t))] := hl
                refine lv_aload_n hx hb d_MD_vote_154 rfl (lv_at hl 7 rfl) ?_
                refine qa_get (k := 22) (i := 0) (f := 26) (val := .ref (qa_a y 43 0)) E hC Nat.one_pos rfl rfl (by decide) f_MD_70 rfl rfl d_MD_vote_155 ?_
                refine lv_iload hx hb d_MD_vote_158 (lv_at hl 3 rfl) ?_
                refine qa_ild (k := 43) (i := 0) (j := k) E hC Nat.one_pos rfl rfl rfl (show k < 16 by have := gl (qa_n y); omega) d_MD_vote_160 ?_
                refine lv_istore hx hb d_MD_vote_161 hl (by decide) rfl (fun ls hl => ?_)
                have hl : lv_has ls 10 [(6, .int (u 43 0 k)), (5, .int 1), (9, .int (nI ((G (qa_n y)).length))), (8, .int (nI (qm_cs (u 43 0) (u 43 0 k) 0 ((G (qa_n y)).length)))), (7, .int (nI k)), (4, .int (nI (qm_sz w i))), (3, .int (nI ((G (qa_n y)).length))), (0, .ref (qa_a y 22 0)), (1, .int (nI i)), (2, .int (nI t))] := hl
                refine lv_iinc (v := nI (k + 1)) hx hb d_MD_vote_163 hl (k := 4) rfl (nI_1 k) (by decide) rfl (fun ls hl => ?_)
                have hl : lv_has ls 10 [(7, .int (nI (k + 1))), (6, .int (u 43 0 k)), (5, .int 1), (9, .int (nI ((G (qa_n y)).length))), (8, .int (nI (qm_cs (u 43 0) (u 43 0 k) 0 ((G (qa_n y)).length)))), (4, .int (nI (qm_sz w i))), (3, .int (nI ((G (qa_n y)).length))), (0, .ref (qa_a y 22 0)), (1, .int (nI i)), (2, .int (nI t))] := hl
                refine lv_goto hx hb d_MD_vote_166 rfl ?_
                have z8 : qm_sz w i < 2 * (G (qa_n y)).count (u 43 0 k) := by
                  have := hcl (u 43 0 k)
                  have h8 := qm_lt h148
                  rw [hcs, qm_2nI, nI_ltI (by omega) (by omega)] at h8
                  exact h8
                exact ih (k + 1) 1 (u 43 0 k) ls (by omega) (Or.inr ⟨rfl, z8⟩) (lv_sub hl [0, 1, 2, 5, 6, 7, 8, 9] rfl)
            | succ d ih2 =>
              intro q ls hkd hl
              have hq : q < (G (qa_n y)).length := by omega
              refine lv_iload hx hb d_MD_vote_102 (lv_at hl 0 rfl) ?_
              refine lv_iload_n hx hb d_MD_vote_104 rfl (lv_at hl 6 rfl) ?_
              refine lv_icmp_ge hx hb d_MD_vote_105 rfl (fun h9 => absurd h9 (nI_ge hq (by have := gl (qa_n y); omega))) (fun _ => ?_)
              refine lv_aload_n hx hb d_MD_vote_108 rfl (lv_at hl 7 rfl) ?_
              refine qa_get (k := 22) (i := 0) (f := 26) (val := .ref (qa_a y 43 0)) E hC Nat.one_pos rfl rfl (by decide) f_MD_70 rfl rfl d_MD_vote_109 ?_
              refine lv_iload hx hb d_MD_vote_112 (lv_at hl 0 rfl) ?_
              refine qa_ild (k := 43) (i := 0) (j := q) E hC Nat.one_pos rfl rfl rfl (show q < 16 by have := gl (qa_n y); omega) d_MD_vote_114 ?_
              refine lv_aload_n hx hb d_MD_vote_115 rfl (lv_at hl 7 rfl) ?_
              refine qa_get (k := 22) (i := 0) (f := 26) (val := .ref (qa_a y 43 0)) E hC Nat.one_pos rfl rfl (by decide) f_MD_70 rfl rfl d_MD_vote_116 ?_
              refine lv_iload hx hb d_MD_vote_119 (lv_at hl 2 rfl) ?_
              refine qa_ild (k := 43) (i := 0) (j := k) E hC Nat.one_pos rfl rfl rfl (show k < 16 by have := gl (qa_n y); omega) d_MD_vote_121 ?_
              refine lv_icmp_ne hx hb d_MD_vote_122 rfl (fun h122 => ?_) (fun h122 => ?_)
              · refine lv_iload hx hb d_MD_vote_132 (lv_at hl 1 rfl) ?_
                refine lv_istore hx hb d_MD_vote_134 hl (by decide) rfl (fun ls hl => ?_)
                have hl : lv_has ls 10 [(8, .int (nI (qm_cs (u 43 0) (u 43 0 k) 0 q))), (9, .int (nI q)), (7, .int (nI k)), (6, .int va), (5, .int wn), (4, .int (nI (qm_sz w i))), (3, .int (nI ((G (qa_n y)).length))), (0, .ref (qa_a y 22 0)), (1, .int (nI i)), (2, .int (nI t))] := hl
                refine lv_iinc (v := nI (q + 1)) hx hb d_MD_vote_136 hl (k := 1) rfl (nI_1 q) (by decide) rfl (fun ls hl => ?_)
                have hl : lv_has ls 10 [(9, .int (nI (q + 1))), (8, .int (nI (qm_cs (u 43 0) (u 43 0 k) 0 q))), (7, .int (nI k)), (6, .int va), (5, .int wn), (4, .int (nI (qm_sz w i))), (3, .int (nI ((G (qa_n y)).length))), (0, .ref (qa_a y 22 0)), (1, .int (nI i)), (2, .int (nI t))] := hl
                refine lv_goto hx hb d_MD_vote_139 rfl ?_
                have e5 : qm_cs (u 43 0) (u 43 0 k) 0 (q + 1) = qm_cs (u 43 0) (u 43 0 k) 0 q := by rw [qm_cs, Nat.zero_add]; exact if_neg h122
                refine ih2 (q + 1) ls (by omega) ?_
                rw [e5]
                exact lv_sub hl [0, 1, 2, 3, 4, 5, 6, 7, 8, 9] rfl
              · refine lv_iload hx hb d_MD_vote_125 (lv_at hl 1 rfl) ?_
                refine lv_iconst (v := 1) hx hb d_MD_vote_127 (by decide) ?_
                refine lv_iadd hx hb d_MD_vote_128 ?_
                refine lv_goto hx hb d_MD_vote_129 rfl ?_
                refine lv_istore hx hb d_MD_vote_134 hl (by decide) rfl (fun ls hl => ?_)
                have hl : lv_has ls 10 [(8, .int ((nI (qm_cs (u 43 0) (u 43 0 k) 0 q)) + 1)), (9, .int (nI q)), (7, .int (nI k)), (6, .int va), (5, .int wn), (4, .int (nI (qm_sz w i))), (3, .int (nI ((G (qa_n y)).length))), (0, .ref (qa_a y 22 0)), (1, .int (nI i)), (2, .int (nI t))] := hl
                refine lv_iinc (v := nI (q + 1)) hx hb d_MD_vote_136 hl (k := 1) rfl (nI_1 q) (by decide) rfl (fun ls hl => ?_)
                have hl : lv_has ls 10 [(9, .int (nI (q + 1))), (8, .int ((nI (qm_cs (u 43 0) (u 43 0 k) 0 q)) + 1)), (7, .int (nI k)), (6, .int va), (5, .int wn), (4, .int (nI (qm_sz w i))), (3, .int (nI ((G (qa_n y)).length))), (0, .ref (qa_a y 22 0)), (1, .int (nI i)), (2, .int (nI t))] := hl
                refine lv_goto hx hb d_MD_vote_139 rfl ?_
                have e5 : qm_cs (u 43 0) (u 43 0 k) 0 (q + 1) = qm_cs (u 43 0) (u 43 0 k) 0 q + 1 := by rw [qm_cs, Nat.zero_add]; exact if_pos h122
                refine ih2 (q + 1) ls (by omega) ?_
                rw [e5, ← nI_1 (qm_cs (u 43 0) (u 43 0 k) 0 q)]
                exact lv_sub hl [0, 1, 2, 3, 4, 5, 6, 7, 8, 9] rfl
          exact loop2 (G (qa_n y)).length 0 ls (by omega) (lv_sub hl [0, 1, 2, 3, 4, 5, 6, 7, 8, 9] rfl)
      exact loopB (G (qa_n y)).length 0 0 0 ls (by omega) (Or.inl ⟨rfl, rfl, lt_0⟩) (lv_sub hl [0, 1, 2, 3, 4, 5, 6, 7] rfl)
    | succ d ih =>
      intro k u H locs ls hkd hC hI hl
      have hk : k < qa_n y := by omega
      have hRu : qm_RM (qa_n y) w u := qm_RM_n hR (fun k i f _ _ _ h43 _ => hI.1 k i f h43)
      refine lv_iload hx hb d_MD_vote_5 (lv_at hl 0 rfl) ?_
      refine lv_aload_n hx hb d_MD_vote_7 rfl (lv_at hl 2 rfl) ?_
      refine qa_get (k := 22) (i := 0) (f := 0) (val := .int (nI (qa_n y))) E hC Nat.one_pos rfl rfl (by decide) f_MD_73 rfl rfl d_MD_vote_8 ?_
      refine lv_icmp_ge hx hb d_MD_vote_11 rfl (fun h9 => absurd h9 (nI_ge hk (by omega))) (fun _ => ?_)
      refine lv_iload hx hb d_MD_vote_14 (lv_at hl 0 rfl) ?_
      refine lv_iload_n hx hb d_MD_vote_16 rfl (lv_at hl 3 rfl) ?_
      refine lv_icmp_eq hx hb d_MD_vote_17 rfl (fun h17 => ?_) (fun h17 => ?_)
      · refine lv_aload_n hx hb d_MD_vote_30 rfl (lv_at hl 2 rfl) ?_
        refine qa_get (k := 22) (i := 0) (f := 26) (val := .ref (qa_a y 43 0)) E hC Nat.one_pos rfl rfl (by decide) f_MD_70 rfl rfl d_MD_vote_31 ?_
        refine lv_iload_n hx hb d_MD_vote_34 rfl (lv_at hl 1 rfl) ?_
        refine lv_iload hx hb d_MD_vote_35 (lv_at hl 0 rfl) ?_
        refine lv_iload_n hx hb d_MD_vote_37 rfl (lv_at hl 3 rfl) ?_
        refine lv_icmp_ne hx hb d_MD_vote_38 rfl (fun h9 => absurd h17 h9) (fun _ => ?_)
        refine lv_aload_n hx hb d_MD_vote_41 rfl (lv_at hl 2 rfl) ?_
        refine qa_get (k := 22) (i := 0) (f := 13) (val := .ref (qa_a y 31 0)) E hC Nat.one_pos rfl rfl (by decide) f_MD_34 rfl rfl d_MD_vote_42 ?_
        refine lv_iload_n hx hb d_MD_vote_45 rfl (lv_at hl 3 rfl) ?_
        refine qa_ild (k := 31) (i := 0) (j := i) E hC Nat.one_pos rfl rfl rfl (show i < 7 by omega) d_MD_vote_46 ?_
        refine lv_goto hx hb d_MD_vote_47 rfl ?_
        refine qa_ist (k := 43) (i := 0) (j := ((G k).length)) E hC Nat.one_pos rfl rfl rfl (show (G k).length < 16 by have := gl k; omega) d_MD_vote_64 (fun H locs hC => ?_)
        refine lv_iinc (v := nI (((G k).length) + 1)) hx hb d_MD_vote_65 hl (k := 1) rfl (nI_1 ((G k).length)) (by decide) rfl (fun ls hl => ?_)
        have hl : lv_has ls 10 [(3, .int (nI (((G k).length) + 1))), (4, .int (nI k)), (0, .ref (qa_a y 22 0)), (1, .int (nI i)), (2, .int (nI t))] := hl
        refine lv_iinc (v := nI (k + 1)) hx hb d_MD_vote_68 hl (k := 1) rfl (nI_1 k) (by decide) rfl (fun ls hl => ?_)
        have hl : lv_has ls 10 [(4, .int (nI (k + 1))), (3, .int (nI (((G k).length) + 1))), (0, .ref (qa_a y 22 0)), (1, .int (nI i)), (2, .int (nI t))] := hl
        refine lv_goto hx hb d_MD_vote_71 rfl ?_
        have e8 := gi k ((nI_eq (by omega) (by omega)).mp h17)
        refine ih (k + 1) _ H locs ls (by omega) hC ⟨fun c b f h => ?_, ?_⟩ ?_
        · rw [qa_up_k h]; exact hI.1 c b f h
        · rw [e8]
          refine qm_hd_push hI.2 ?_ (fun q hq => qa_up_f (by omega))
          exact qa_up_s.trans (hI.1 31 0 i (by decide))
        · rw [e8, List.length_append]
          exact lv_sub hl [0, 1, 2, 3, 4] rfl
      · refine lv_aload_n hx hb d_MD_vote_20 rfl (lv_at hl 2 rfl) ?_
        refine lv_iload hx hb d_MD_vote_21 (lv_at hl 0 rfl) ?_
        refine lv_iload_n hx hb d_MD_vote_23 rfl (lv_at hl 3 rfl) ?_
        refine qa_pV (k := 22) (i := 0) (As := [.int (nI k), .int (nI i)]) E hC (c_MD_through l y u k i hk hi w hRu) Nat.one_pos rfl rfl k_MD_97 (qa_fitR (by decide) (by decide)) rfl hl.1 rfl (Nat.le_of_ble_eq_true rfl) d_MD_vote_24 ?_
        refine lv_if_eq hx hb d_MD_vote_27 rfl (fun h27 => ?_) (fun h27 => ?_)
        · refine lv_iinc (v := nI (k + 1)) hx hb d_MD_vote_68 hl (k := 0) rfl (nI_1 k) (by decide) rfl (fun ls hl => ?_)
          have hl : lv_has ls 10 [(4, .int (nI (k + 1))), (3, .int (nI ((G k).length))), (0, .ref (qa_a y 22 0)), (1, .int (nI i)), (2, .int (nI t))] := hl
          refine lv_goto hx hb d_MD_vote_71 rfl ?_
          have e8 := gf k (fun z => h17 (by rw [z])) (qb_e0 h27)
          refine ih (k + 1) u H locs ls (by omega) hC ⟨hI.1, by rw [e8]; exact hI.2⟩ ?_
          rw [e8]
          exact lv_sub hl [0, 1, 2, 3, 4] rfl
        · refine lv_aload_n hx hb d_MD_vote_30 rfl (lv_at hl 2 rfl) ?_
          refine qa_get (k := 22) (i := 0) (f := 26) (val := .ref (qa_a y 43 0)) E hC Nat.one_pos rfl rfl (by decide) f_MD_70 rfl rfl d_MD_vote_31 ?_
          refine lv_iload_n hx hb d_MD_vote_34 rfl (lv_at hl 1 rfl) ?_
          refine lv_iload hx hb d_MD_vote_35 (lv_at hl 0 rfl) ?_
          refine lv_iload_n hx hb d_MD_vote_37 rfl (lv_at hl 3 rfl) ?_
          refine lv_icmp_ne hx hb d_MD_vote_38 rfl (fun _ => ?_) (fun h9 => absurd h9 h17)
          refine lv_aload_n hx hb d_MD_vote_50 rfl (lv_at hl 2 rfl) ?_
          refine lv_iload hx hb d_MD_vote_51 (lv_at hl 0 rfl) ?_
          refine lv_iload_n hx hb d_MD_vote_53 rfl (lv_at hl 3 rfl) ?_
          refine lv_aload_n hx hb d_MD_vote_54 rfl (lv_at hl 2 rfl) ?_
          refine qa_get (k := 22) (i := 0) (f := 13) (val := .ref (qa_a y 31 0)) E hC Nat.one_pos rfl rfl (by decide) f_MD_34 rfl rfl d_MD_vote_55 ?_
          refine lv_iload hx hb d_MD_vote_58 (lv_at hl 0 rfl) ?_
          refine qa_ild (k := 31) (i := 0) (j := k) E hC Nat.one_pos rfl rfl rfl (show k < 7 by omega) d_MD_vote_60 ?_
          refine qa_pV (k := 22) (i := 0) (As := [.int (nI k), .int (nI i), .int (u 31 0 k)]) E hC (c_MD_says l y u k i (u 31 0 k) hk hi w hRu hF) Nat.one_pos rfl rfl k_MD_100 (qa_fitR (by decide) (by decide)) rfl hl.1 rfl (Nat.le_of_ble_eq_true rfl) d_MD_vote_61 ?_
          refine qa_ist (k := 43) (i := 0) (j := ((G k).length)) E hC Nat.one_pos rfl rfl rfl (show (G k).length < 16 by have := gl k; omega) d_MD_vote_64 (fun H locs hC => ?_)
          refine lv_iinc (v := nI (((G k).length) + 1)) hx hb d_MD_vote_65 hl (k := 1) rfl (nI_1 ((G k).length)) (by decide) rfl (fun ls hl => ?_)
          have hl : lv_has ls 10 [(3, .int (nI (((G k).length) + 1))), (4, .int (nI k)), (0, .ref (qa_a y 22 0)), (1, .int (nI i)), (2, .int (nI t))] := hl
          refine lv_iinc (v := nI (k + 1)) hx hb d_MD_vote_68 hl (k := 1) rfl (nI_1 k) (by decide) rfl (fun ls hl => ?_)
          have hl : lv_has ls 10 [(4, .int (nI (k + 1))), (3, .int (nI (((G k).length) + 1))), (0, .ref (qa_a y 22 0)), (1, .int (nI i)), (2, .int (nI t))] := hl
          refine lv_goto hx hb d_MD_vote_71 rfl ?_
          have e8 := gt k (fun z => h17 (by rw [z])) (qb_n0 h27)
          refine ih (k + 1) _ H locs ls (by omega) hC ⟨fun c b f h => ?_, ?_⟩ ?_
          · rw [qa_up_k h]; exact hI.1 c b f h
          · rw [e8]
            refine qm_hd_push hI.2 ?_ (fun q hq => qa_up_f (by omega))
            exact qa_up_s.trans (by unfold qm_sr; rw [hI.1 31 0 k (by decide)])
          · rw [e8, List.length_append]
            exact lv_sub hl [0, 1, 2, 3, 4] rfl
  refine lv_iconst (v := 0) hx hb d_MD_vote_0 (by decide) ?_
  refine lv_istore_n hx hb d_MD_vote_1 rfl hl (by decide) rfl (fun ls hl => ?_)
  have hl : lv_has ls 10 [(3, .int 0), (0, .ref (qa_a y 22 0)), (1, .int (nI i)), (2, .int (nI t))] := hl
  refine lv_iconst (v := 0) hx hb d_MD_vote_2 (by decide) ?_
  refine lv_istore hx hb d_MD_vote_3 hl (by decide) rfl (fun ls hl => ?_)
  have hl : lv_has ls 10 [(4, .int 0), (3, .int 0), (0, .ref (qa_a y 22 0)), (1, .int (nI i)), (2, .int (nI t))] := hl
  exact loopA (qa_n y) 0 v _ _ ls (by omega) hC ⟨fun _ _ _ _ => rfl, by rw [show G 0 = [] from List.length_eq_zero_iff.mp (Nat.le_zero.mp (gl 0))]; exact fun q hq => absurd hq (by simp)⟩ (by rw [show G 0 = [] from List.length_eq_zero_iff.mp (Nat.le_zero.mp (gl 0))]; exact lv_sub hl [0, 1, 2, 3, 4] rfl)
