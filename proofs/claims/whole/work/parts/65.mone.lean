set_option maxHeartbeats 4000000 in
set_option maxRecDepth 100000 in
theorem c_MD_one (l : Launch) (y : qa_L) (v : qa_M) (w : qa_M) (hR : qm_RM (qa_n y) w v) (hF : qm_fok w) (hM : qm_mok y w) (hP : qm_pok (qa_n y) w) : qa_Mv l y_MD_one b_MD_one 3 7 [.ref (qa_a y 22 0)] y v (fun u => qm_RM (qa_n y) (qm_FR y w) u ∧ (∀ c b f, c < 22 → u c b f = v c b f) ∧ u 22 0 4 = v 22 0 4 + qm_FS y w) := by
  refine qa_ofMv (plainFor_of_name (by decide)) (Nat.le_of_ble_eq_true rfl) ?_
  intro p e s m below meth c ls E hr hlocks hC hl
  have E : qa_E p m c b_MD_one 3 s _ "VotedFramesModel" y := E
  have F := E.1
  have hx := F.1
  have hb := F.2.1
  have hown : s.vm.findClass "VotedFramesModel" = some m.cls := F.2.2.2.1
  have hts := F.2.2.2.2
  have hn4 : 4 ≤ qa_n y := E.2.1.2.2.1
  have hn7 : qa_n y ≤ 7 := E.2.1.2.2.2.1
  have hl : lv_has ls 3 [(0, .ref (qa_a y 22 0))] := hl
  obtain ⟨w0, hw0⟩ : ∃ w0, w0 = qm_P0 y w := ⟨_, rfl⟩
  have hR0 : qm_RM (qa_n y) w0 v := by rw [hw0]; exact qm_RM_P0 hR
  have z0 : ∀ a b f, ¬ (a = 2 ∧ f = 12) → w0 a b f = w a b f := fun a b f h => by rw [hw0]; unfold qm_P0; rw [if_neg (fun z => h ⟨z.1, z.2.2⟩)]
  have hM0 : qm_mok y w0 := qm_mok_n (fun i => z0 _ _ _ (by omega)) hM
  have hF0 : qm_fok w0 := by
    obtain ⟨F9, g1, g2⟩ := hF
    exact ⟨F9, g1, by rw [z0 _ _ _ (by omega)]; exact g2⟩
  have hP0 : qm_pok (qa_n y) w0 := qm_pok_n (funext fun b => funext fun f => z0 13 b f (by omega)) (funext fun b => funext fun f => z0 14 b f (by omega)) (funext fun b => funext fun f => z0 15 b f (by omega)) hP
  have loop1 : ∀ (d k : Nat) (u : qa_M) (H : Heap) (locs : List Loc) (ls : Array Slot), k + d = qa_n y → qa_C y u s H locs → (qm_RM (qa_n y) (qm_fil (qm_col w0 13 (fun _ => 0) k) 5 (fun b f => qm_AG y w0 b f (w0 2 f 8)) k 0 (qa_n y)) u ∧ (∀ c b f, c < 22 → u c b f = v c b f) ∧ u 22 0 4 = v 22 0 4) → lv_has ls 3 [(1, .int (nI k)), (0, .ref (qa_a y 22 0))] → W p l e (qa_R 7) s m [.ref (qa_a y 22 0)].toArray below meth c H locs 0 0 (MQ below (va_Qv (fun u => qm_RM (qa_n y) (qm_FR y w) u ∧ (∀ c b f, c < 22 → u c b f = v c b f) ∧ u 22 0 4 = v 22 0 4 + qm_FS y w) (fun u t => qa_W y u t) (qa_A y)) [.ref (qa_a y 22 0)].toArray s 0 0 (qa_A y)) (F0 m 2 ls []) := by
    intro d
    induction d with
    | zero =>
      intro k u H locs ls hkd hC hI hl
      obtain rfl : qa_n y = k := by omega
      rw [qm_fil_P1] at hI
      have hM1 : qm_mok y (qm_P1 y w0) := qm_mok_n (fun i => by unfold qm_P1; rw [if_neg (by omega), if_neg (by omega)]) hM0
      have hF1 : qm_fok (qm_P1 y w0) := by
        obtain ⟨F9, g1, g2⟩ := hF0
        exact ⟨F9, g1, by rw [qm_P1_k (by decide) (by decide)]; exact g2⟩
      have hP1 : qm_pok (qa_n y) (qm_P1 y w0) := qm_pok_n (funext fun b => funext fun f => qm_P1_k (by decide) (by decide)) (funext fun b => funext fun f => qm_P1_k (by decide) (by decide)) (funext fun b => funext fun f => qm_P1_k (by decide) (by decide)) hP0
      refine lv_iload_n hx hb d_MD_one_2 rfl (lv_at hl 0 rfl) ?_
      refine lv_aload_n hx hb d_MD_one_3 rfl (lv_at hl 1 rfl) ?_
      refine qa_get (k := 22) (i := 0) (f := 0) (val := .int (nI (qa_n y))) E hC Nat.one_pos rfl rfl (by decide) f_MD_73 rfl rfl d_MD_one_4 ?_
      refine lv_icmp_ge hx hb d_MD_one_7 rfl (fun _ => ?_) (fun h9 => absurd (nI_le (Nat.le_refl _) (by omega)) h9)
      refine lv_aload_n hx hb d_MD_one_62 rfl (lv_at hl 1 rfl) ?_
      refine qa_mVv (k := 22) (i := 0) (As := []) E hC (c_MD_tasks l y u (qm_P1 y w0) hI.1 hF1 hM1 hP1) Nat.one_pos rfl rfl k_MD_164 (qa_fitR (by decide) (by decide)) rfl hl.1 rfl (Nat.le_of_ble_eq_true rfl) d_MD_one_63 (fun u1 H locs hp1 hC => ?_)
      refine lv_iconst (v := 0) hx hb d_MD_one_66 (by decide) ?_
      refine lv_istore_n hx hb d_MD_one_67 rfl hl (by decide) rfl (fun ls hl => ?_)
      have hl : lv_has ls 3 [(1, .int 0), (0, .ref (qa_a y 22 0))] := hl
      obtain ⟨w2, hw2⟩ : ∃ w2, w2 = qm_P2 y (qm_P1 y w0) 4 := ⟨_, rfl⟩
      have k2 : ∀ b f, f ≠ 13 → w2 2 b f = w0 2 b f := fun b f h => by
        rw [hw2, qm_P2_k 4 (by decide) (by decide) (fun z => h z.2)]
        unfold qm_P1
        rw [if_neg (by omega), if_neg (fun z => h z.2.2)]
      have hM2 : qm_mok y w2 := qm_mok_n (fun i => k2 i 11 (by decide)) hM0
      have hF2 : qm_fok w2 := by
        obtain ⟨F9, g1, g2⟩ := hF0
        exact ⟨F9, g1, by rw [hw2, qm_P2_k 4 (by decide) (by decide) (by omega), qm_P1_k (by decide) (by decide)]; exact g2⟩
      have i2 : qm_RM (qa_n y) w2 u1 ∧ (∀ c b f, c < 22 → u1 c b f = v c b f) ∧ u1 22 0 4 = v 22 0 4 := by
        rw [hw2]
        exact ⟨hp1.1, fun c b f h => by rw [hp1.2 c b f (by omega) (by omega) (by omega) (by omega) (by omega) (by omega)]; exact hI.2.1 c b f h, by rw [hp1.2 22 0 4 (by omega) (by omega) (by omega) (by omega) (by omega) (by omega)]; exact hI.2.2⟩
      have loop2 : ∀ (d k : Nat) (u : qa_M) (H : Heap) (locs : List Loc) (ls : Array Slot), k + d = qa_n y → qa_C y u s H locs → (qm_RM (qa_n y) (qm_fil w2 6 (fun b f => qm_AG y w2 b f (w2 2 f 13) &&& qm_all (qa_n y)) k 0 (qa_n y)) u ∧ (∀ c b f, c < 22 → u c b f = v c b f) ∧ u 22 0 4 = v 22 0 4) → lv_has ls 3 [(1, .int (nI k)), (0, .ref (qa_a y 22 0))] → W p l e (qa_R 7) s m [.ref (qa_a y 22 0)].toArray below meth c H locs 0 0 (MQ below (va_Qv (fun u => qm_RM (qa_n y) (qm_FR y w) u ∧ (∀ c b f, c < 22 → u c b f = v c b f) ∧ u 22 0 4 = v 22 0 4 + qm_FS y w) (fun u t => qa_W y u t) (qa_A y)) [.ref (qa_a y 22 0)].toArray s 0 0 (qa_A y)) (F0 m 68 ls []) := by
        intro d
        induction d with
        | zero =>
          intro k u H locs ls hkd hC hI hl
          obtain rfl : qa_n y = k := by omega
          refine lv_iload_n hx hb d_MD_one_68 rfl (lv_at hl 0 rfl) ?_
          refine lv_aload_n hx hb d_MD_one_69 rfl (lv_at hl 1 rfl) ?_
          refine qa_get (k := 22) (i := 0) (f := 0) (val := .int (nI (qa_n y))) E hC Nat.one_pos rfl rfl (by decide) f_MD_73 rfl rfl d_MD_one_70 ?_
          refine lv_icmp_ge hx hb d_MD_one_73 rfl (fun _ => ?_) (fun h9 => absurd (nI_le (Nat.le_refl _) (by omega)) h9)
          refine lv_iconst (v := 0) hx hb d_MD_one_130 (by decide) ?_
          refine lv_istore_n hx hb d_MD_one_131 rfl hl (by decide) rfl (fun ls hl => ?_)
          have hl : lv_has ls 3 [(1, .int 0), (0, .ref (qa_a y 22 0))] := hl
          obtain ⟨w3, hw3⟩ : ∃ w3, w3 = qm_F3 y w := ⟨_, rfl⟩
          have e3 : w3 = qm_P3 y w2 := by rw [hw3, hw2, hw0]; rfl
          have hM3 : qm_mok y w3 := by rw [e3]; exact qm_mok_n (fun i => qm_P3_k (by decide)) hM2
          have i3 : qm_RM (qa_n y) w3 u := by rw [e3, ← qm_fil_P3]; exact hI.1
          have hI3 := hI.2
          have loop3 : ∀ (d k : Nat) (u : qa_M) (H : Heap) (locs : List Loc) (ls : Array Slot), k + d = qa_n y → qa_C y u s H locs → (qm_RM (qa_n y) (qm_col w3 11 (fun i => w3 2 i 11 &&& (qm_cv y w3 i (qa_n y) ^^^ (-1))) k) u ∧ (∀ c b f, c < 22 → u c b f = v c b f) ∧ u 22 0 4 = v 22 0 4 + qm_sk y w3 k) → lv_has ls 3 [(1, .int (nI k)), (0, .ref (qa_a y 22 0))] → W p l e (qa_R 7) s m [.ref (qa_a y 22 0)].toArray below meth c H locs 0 0 (MQ below (va_Qv (fun u => qm_RM (qa_n y) (qm_FR y w) u ∧ (∀ c b f, c < 22 → u c b f = v c b f) ∧ u 22 0 4 = v 22 0 4 + qm_FS y w) (fun u t => qa_W y u t) (qa_A y)) [.ref (qa_a y 22 0)].toArray s 0 0 (qa_A y)) (F0 m 132 ls []) := by
            intro d
            induction d with
            | zero =>
              intro k u H locs ls hkd hC hI hl
              obtain rfl : qa_n y = k := by omega
              refine lv_iload_n hx hb d_MD_one_132 rfl (lv_at hl 0 rfl) ?_
              refine lv_aload_n hx hb d_MD_one_133 rfl (lv_at hl 1 rfl) ?_
              refine qa_get (k := 22) (i := 0) (f := 0) (val := .int (nI (qa_n y))) E hC Nat.one_pos rfl rfl (by decide) f_MD_73 rfl rfl d_MD_one_134 ?_
              refine lv_icmp_ge hx hb d_MD_one_137 rfl (fun _ => ?_) (fun h9 => absurd (nI_le (Nat.le_refl _) (by omega)) h9)
              refine lv_iconst (v := 0) hx hb d_MD_one_151 (by decide) ?_
              refine lv_istore_n hx hb d_MD_one_152 rfl hl (by decide) rfl (fun ls hl => ?_)
              have hl : lv_has ls 3 [(1, .int 0), (0, .ref (qa_a y 22 0))] := hl
              obtain ⟨w4, hw4⟩ : ∃ w4, w4 = qm_P4 y w3 := ⟨_, rfl⟩
              have i4 : qm_RM (qa_n y) w4 u := by rw [hw4, ← qm_col_P4]; exact hI.1
              have hM4 : qm_mok y w4 := by rw [hw4, ← qm_col_P4]; exact qm_mok_col hn7 hM3
              have hI4 := hI.2
              have loop4 : ∀ (d k : Nat) (u : qa_M) (H : Heap) (locs : List Loc) (ls : Array Slot), k + d = qa_n y → qa_C y u s H locs → (qm_RM (qa_n y) (qm_col w4 14 (qm_co y w4) k) u ∧ (∀ c b f, c < 22 → u c b f = v c b f) ∧ u 22 0 4 = v 22 0 4 + qm_sk y w3 (qa_n y)) → lv_has ls 3 [(1, .int (nI k)), (0, .ref (qa_a y 22 0))] → W p l e (qa_R 7) s m [.ref (qa_a y 22 0)].toArray below meth c H locs 0 0 (MQ below (va_Qv (fun u => qm_RM (qa_n y) (qm_FR y w) u ∧ (∀ c b f, c < 22 → u c b f = v c b f) ∧ u 22 0 4 = v 22 0 4 + qm_FS y w) (fun u t => qa_W y u t) (qa_A y)) [.ref (qa_a y 22 0)].toArray s 0 0 (qa_A y)) (F0 m 153 ls []) := by
                intro d
                induction d with
                | zero =>
                  intro k u H locs ls hkd hC hI hl
                  obtain rfl : qa_n y = k := by omega
                  refine lv_iload_n hx hb d_MD_one_153 rfl (lv_at hl 0 rfl) ?_
                  refine lv_aload_n hx hb d_MD_one_154 rfl (lv_at hl 1 rfl) ?_
                  refine qa_get (k := 22) (i := 0) (f := 0) (val := .int (nI (qa_n y))) E hC Nat.one_pos rfl rfl (by decide) f_MD_73 rfl rfl d_MD_one_155 ?_
                  refine lv_icmp_ge hx hb d_MD_one_158 rfl (fun _ => ?_) (fun h9 => absurd (nI_le (Nat.le_refl _) (by omega)) h9)
                  refine lv_iconst (v := 0) hx hb d_MD_one_178 (by decide) ?_
                  refine lv_istore_n hx hb d_MD_one_179 rfl hl (by decide) rfl (fun ls hl => ?_)
                  have hl : lv_has ls 3 [(1, .int 0), (0, .ref (qa_a y 22 0))] := hl
                  have hI5 := hI
                  have loop5 : ∀ (d k : Nat) (u : qa_M) (H : Heap) (locs : List Loc) (ls : Array Slot), k + d = qa_n y → qa_C y u s H locs → (qm_RM (qa_n y) (qm_col (qm_col w4 14 (qm_co y w4) (qa_n y)) 6 (fun i => w4 2 i 6 + (qm_co y w4 i + w4 2 i 7)) k) u ∧ (∀ c b f, c < 22 → u c b f = v c b f) ∧ u 22 0 4 = v 22 0 4 + qm_sk y w3 (qa_n y)) → lv_has ls 3 [(1, .int (nI k)), (0, .ref (qa_a y 22 0))] → W p l e (qa_R 7) s m [.ref (qa_a y 22 0)].toArray below meth c H locs 0 0 (MQ below (va_Qv (fun u => qm_RM (qa_n y) (qm_FR y w) u ∧ (∀ c b f, c < 22 → u c b f = v c b f) ∧ u 22 0 4 = v 22 0 4 + qm_FS y w) (fun u t => qa_W y u t) (qa_A y)) [.ref (qa_a y 22 0)].toArray s 0 0 (qa_A y)) (F0 m 180 ls []) := by
                    intro d
                    induction d with
                    | zero =>
                      intro k u H locs ls hkd hC hI hl
                      obtain rfl : qa_n y = k := by omega
                      refine lv_iload_n hx hb d_MD_one_180 rfl (lv_at hl 0 rfl) ?_
                      refine lv_aload_n hx hb d_MD_one_181 rfl (lv_at hl 1 rfl) ?_
                      refine qa_get (k := 22) (i := 0) (f := 0) (val := .int (nI (qa_n y))) E hC Nat.one_pos rfl rfl (by decide) f_MD_73 rfl rfl d_MD_one_182 ?_
                      refine lv_icmp_ge hx hb d_MD_one_185 rfl (fun _ => ?_) (fun h9 => absurd (nI_le (Nat.le_refl _) (by omega)) h9)
                      refine lv_aload_n hx hb d_MD_one_220 rfl (lv_at hl 1 rfl) ?_
                      refine lv_dup hx hb d_MD_one_221 rfl ?_
                      refine qa_get (k := 22) (i := 0) (f := 3) (val := .int (u 22 0 3)) E hC Nat.one_pos rfl rfl (by decide) f_MD_94 rfl rfl d_MD_one_222 ?_
                      refine lv_iconst (v := 1) hx hb d_MD_one_225 (by decide) ?_
                      refine lv_iadd hx hb d_MD_one_226 ?_
                      refine qa_put (k := 22) (i := 0) (f := 3) E hC Nat.one_pos rfl rfl (by decide) f_MD_94 rfl rfl rfl rfl d_MD_one_227 (fun H locs hC => ?_)
                      exact qa_mvret E hC hr hlocks ⟨by
                          have h1 := hI.1
                          rw [qm_col_P5, hw4, hw3] at h1
                          have e9 : u 22 0 3 = w 0 0 11 := by rw [qr_frm h1, qm_P5_k (by decide), qm_P4_k (by decide), qm_F3_k (by decide) (by decide) (by decide) (by decide) (by decide)]
                          unfold qm_FR
                          rw [e9]
                          exact qm_RM_up hn7 h1 qm_mu_f0, fun c b f h => by rw [qa_up_k (by omega)]; exact hI.2.1 c b f h, by rw [qa_up_f (by decide), hI.2.2, hw3]; rfl⟩ d_MD_one_230
                    | succ d ih =>
                      intro k u H locs ls hkd hC hI hl
                      have hk : k < qa_n y := by omega
                      refine lv_iload_n hx hb d_MD_one_180 rfl (lv_at hl 0 rfl) ?_
                      refine lv_aload_n hx hb d_MD_one_181 rfl (lv_at hl 1 rfl) ?_
                      refine qa_get (k := 22) (i := 0) (f := 0) (val := .int (nI (qa_n y))) E hC Nat.one_pos rfl rfl (by decide) f_MD_73 rfl rfl d_MD_one_182 ?_
                      refine lv_icmp_ge hx hb d_MD_one_185 rfl (fun h9 => absurd h9 (nI_ge hk (by omega))) (fun _ => ?_)
                      refine lv_aload_n hx hb d_MD_one_188 rfl (lv_at hl 1 rfl) ?_
                      refine qa_get (k := 22) (i := 0) (f := 5) (val := .ref (qa_a y 23 0)) E hC Nat.one_pos rfl rfl (by decide) f_MD_7 rfl rfl d_MD_one_189 ?_
                      refine lv_iload_n hx hb d_MD_one_192 rfl (lv_at hl 0 rfl) ?_
                      refine lv_aload_n hx hb d_MD_one_193 rfl (lv_at hl 1 rfl) ?_
                      refine qa_get (k := 22) (i := 0) (f := 5) (val := .ref (qa_a y 23 0)) E hC Nat.one_pos rfl rfl (by decide) f_MD_7 rfl rfl d_MD_one_194 ?_
                      refine lv_iload_n hx hb d_MD_one_197 rfl (lv_at hl 0 rfl) ?_
                      refine qa_ild (k := 23) (i := 0) (j := k) E hC Nat.one_pos rfl rfl rfl (show k < 7 by omega) d_MD_one_198 ?_
                      refine lv_aload_n hx hb d_MD_one_199 rfl (lv_at hl 1 rfl) ?_
                      refine qa_get (k := 22) (i := 0) (f := 12) (val := .ref (qa_a y 30 0)) E hC Nat.one_pos rfl rfl (by decide) f_MD_31 rfl rfl d_MD_one_200 ?_
                      refine lv_iload_n hx hb d_MD_one_203 rfl (lv_at hl 0 rfl) ?_
                      refine qa_ild (k := 30) (i := 0) (j := k) E hC Nat.one_pos rfl rfl rfl (show k < 7 by omega) d_MD_one_204 ?_
                      refine lv_iadd hx hb d_MD_one_205 ?_
                      refine lv_aload_n hx hb d_MD_one_206 rfl (lv_at hl 1 rfl) ?_
                      refine qa_get (k := 22) (i := 0) (f := 6) (val := .ref (qa_a y 24 0)) E hC Nat.one_pos rfl rfl (by decide) f_MD_13 rfl rfl d_MD_one_207 ?_
                      refine lv_iload_n hx hb d_MD_one_210 rfl (lv_at hl 0 rfl) ?_
                      refine qa_ild (k := 24) (i := 0) (j := k) E hC Nat.one_pos rfl rfl rfl (show k < 7 by omega) d_MD_one_211 ?_
                      refine lv_iadd hx hb d_MD_one_212 ?_
                      refine qa_ist (k := 23) (i := 0) (j := k) E hC Nat.one_pos rfl rfl rfl (show k < 7 by omega) d_MD_one_213 (fun H locs hC => ?_)
                      refine lv_iinc (v := nI (k + 1)) hx hb d_MD_one_214 hl (k := 0) rfl (nI_1 k) (by decide) rfl (fun ls hl => ?_)
                      have hl : lv_has ls 3 [(1, .int (nI (k + 1))), (0, .ref (qa_a y 22 0))] := hl
                      refine lv_goto hx hb d_MD_one_217 rfl ?_
                      refine ih (k + 1) _ H locs ls (by omega) hC ⟨?_, fun c b f h => ?_, ?_⟩ (lv_sub hl [0, 1] rfl)
                      · rw [← qm_col_s (w := (qm_col w4 14 (qm_co y w4) (qa_n y))) (F := 6) (X := (fun i => w4 2 i 6 + (qm_co y w4 i + w4 2 i 7))) (k := k) (x := u 23 0 k + u 30 0 k + u 24 0 k) ?_]
                        · exact qm_RM_up hn7 hI.1 (qm_mu_2 (k := 23) (c := 6) hk (by omega))
                        · rw [qr_clk hI.1 hk, qr_shf hI.1 hk, qr_drf hI.1 hk, qm_col_b (Nat.le_refl _), qm_col_b (Nat.le_refl _), qm_col_b (Nat.le_refl _), qm_col_k (by omega), qm_col_k (f := 7) (by omega), Int32.add_assoc]
                          show w4 2 k 6 + (qm_col w4 14 (qm_co y w4) (qa_n y) 2 k 14 + w4 2 k 7) = w4 2 k 6 + (qm_co y w4 k + w4 2 k 7)
                          unfold qm_col
                          rw [if_pos ⟨rfl, hk, rfl⟩]
                      · rw [qa_up_k (by omega)]; exact hI.2.1 c b f h
                      · rw [qa_up_k (by decide)]; exact hI.2.2
                  exact loop5 (qa_n y) 0 u H locs ls (by omega) hC ⟨by rw [qm_col_0]; exact hI5.1, hI5.2⟩ (lv_sub hl [0, 1] rfl)
                | succ d ih =>
                  intro k u H locs ls hkd hC hI hl
                  have hk : k < qa_n y := by omega
                  refine lv_iload_n hx hb d_MD_one_153 rfl (lv_at hl 0 rfl) ?_
                  refine lv_aload_n hx hb d_MD_one_154 rfl (lv_at hl 1 rfl) ?_
                  refine qa_get (k := 22) (i := 0) (f := 0) (val := .int (nI (qa_n y))) E hC Nat.one_pos rfl rfl (by decide) f_MD_73 rfl rfl d_MD_one_155 ?_
                  refine lv_icmp_ge hx hb d_MD_one_158 rfl (fun h9 => absurd h9 (nI_ge hk (by omega))) (fun _ => ?_)
                  refine lv_aload_n hx hb d_MD_one_161 rfl (lv_at hl 1 rfl) ?_
                  refine qa_get (k := 22) (i := 0) (f := 12) (val := .ref (qa_a y 30 0)) E hC Nat.one_pos rfl rfl (by decide) f_MD_31 rfl rfl d_MD_one_162 ?_
                  refine lv_iload_n hx hb d_MD_one_165 rfl (lv_at hl 0 rfl) ?_
                  refine lv_aload_n hx hb d_MD_one_166 rfl (lv_at hl 1 rfl) ?_
                  refine lv_iload_n hx hb d_MD_one_167 rfl (lv_at hl 0 rfl) ?_
                  refine qa_pV (k := 22) (i := 0) (As := [.int (nI k)]) E hC (c_MD_mean l y u k hk (qm_col w4 14 (qm_co y w4) k) hI.1 (qm_mok_n (fun i => qm_col_k (by omega)) hM4)) Nat.one_pos rfl rfl k_MD_170 (qa_fitR (by decide) (by decide)) rfl hl.1 rfl (Nat.le_of_ble_eq_true rfl) d_MD_one_168 ?_
                  rw [qm_co_n (u := (qm_col w4 14 (qm_co y w4) k)) (v := w4) (fun j f h => qm_col_k (fun z => h z.2)) (fun j => qm_col_k (by omega))]
                  refine qa_ist (k := 30) (i := 0) (j := k) E hC Nat.one_pos rfl rfl rfl (show k < 7 by omega) d_MD_one_171 (fun H locs hC => ?_)
                  refine lv_iinc (v := nI (k + 1)) hx hb d_MD_one_172 hl (k := 0) rfl (nI_1 k) (by decide) rfl (fun ls hl => ?_)
                  have hl : lv_has ls 3 [(1, .int (nI (k + 1))), (0, .ref (qa_a y 22 0))] := hl
                  refine lv_goto hx hb d_MD_one_175 rfl ?_
                  refine ih (k + 1) _ H locs ls (by omega) hC ⟨?_, fun c b f h => ?_, ?_⟩ (lv_sub hl [0, 1] rfl)
                  · rw [← qm_col_s (w := w4) (F := 14) (X := qm_co y w4) (k := k) rfl]
                    exact qm_RM_up hn7 hI.1 (qm_mu_2 (k := 30) (c := 14) hk (by omega))
                  · rw [qa_up_k (by omega)]; exact hI.2.1 c b f h
                  · rw [qa_up_k (by decide)]; exact hI.2.2
              exact loop4 (qa_n y) 0 u H locs ls (by omega) hC ⟨by rw [qm_col_0]; exact i4, hI4⟩ (lv_sub hl [0, 1] rfl)
            | succ d ih =>
              intro k u H locs ls hkd hC hI hl
              have hk : k < qa_n y := by omega
              refine lv_iload_n hx hb d_MD_one_132 rfl (lv_at hl 0 rfl) ?_
              refine lv_aload_n hx hb d_MD_one_133 rfl (lv_at hl 1 rfl) ?_
              refine qa_get (k := 22) (i := 0) (f := 0) (val := .int (nI (qa_n y))) E hC Nat.one_pos rfl rfl (by decide) f_MD_73 rfl rfl d_MD_one_134 ?_
              refine lv_icmp_ge hx hb d_MD_one_137 rfl (fun h9 => absurd h9 (nI_ge hk (by omega))) (fun _ => ?_)
              refine lv_aload_n hx hb d_MD_one_140 rfl (lv_at hl 1 rfl) ?_
              refine lv_iload_n hx hb d_MD_one_141 rfl (lv_at hl 0 rfl) ?_
              refine qa_mVv (k := 22) (i := 0) (As := [.int (nI k)]) E hC (c_MD_strike l y u k hk (qm_col w3 11 (fun i => w3 2 i 11 &&& (qm_cv y w3 i (qa_n y) ^^^ (-1))) k) hI.1 (qm_mok_col hn7 hM3)) Nat.one_pos rfl rfl k_MD_167 (qa_fitR (by decide) (by decide)) rfl hl.1 rfl (Nat.le_of_ble_eq_true rfl) d_MD_one_142 (fun u2 H locs hp2 hC => ?_)
              refine lv_iinc (v := nI (k + 1)) hx hb d_MD_one_145 hl (k := 0) rfl (nI_1 k) (by decide) rfl (fun ls hl => ?_)
              have hl : lv_has ls 3 [(1, .int (nI (k + 1))), (0, .ref (qa_a y 22 0))] := hl
              refine lv_goto hx hb d_MD_one_148 rfl ?_
              have ecv : qm_cv y (qm_col w3 11 (fun i => w3 2 i 11 &&& (qm_cv y w3 i (qa_n y) ^^^ (-1))) k) k (qa_n y) = qm_cv y w3 k (qa_n y) := qm_cv_n (qm_col_b (Nat.le_refl _)) (fun j => qm_col_k (by omega)) _
              refine ih (k + 1) _ H locs ls (by omega) hC ⟨?_, fun c b f h => ?_, ?_⟩ (lv_sub hl [0, 1] rfl)
              · rw [← qm_col_s (w := w3) (F := 11) (X := (fun i => w3 2 i 11 &&& (qm_cv y w3 i (qa_n y) ^^^ (-1)))) (k := k) rfl]
                have h1 := qm_RM_up (x := (fun i => w3 2 i 11 &&& (qm_cv y w3 i (qa_n y) ^^^ (-1))) k) hn7 hI.1 (qm_mu_2 (k := 28) (c := 11) hk (by omega))
                refine qm_RM_n h1 (fun c b f q22 _ _ _ _ => ?_)
                rw [hp2 c b f, ecv, qm_col_b (Nat.le_refl _)]
                by_cases z : c = 28 ∧ b = 0 ∧ f = k
                · obtain ⟨rfl, rfl, rfl⟩ := z
                  rw [qa_up_s, qa_up_s]
                · rw [qa_up_x z, qa_up_x z, qa_up_x (fun z2 => q22 ⟨z2.1, by omega⟩)]
              · rw [hp2 c b f, qa_up_k (by omega), qa_up_k (by omega)]; exact hI.2.1 c b f h
              · rw [hp2 22 0 4, qa_up_k (by decide), qa_up_s, ecv, hI.2.2, Int32.add_assoc]; rfl
          exact loop3 (qa_n y) 0 u H locs ls (by omega) hC ⟨by rw [qm_col_0]; exact i3, hI3.1, by rw [hI3.2, show qm_sk y w3 0 = 0 from rfl, Int32.add_zero]⟩ (lv_sub hl [0, 1] rfl)
        | succ d ih =>
          intro k u H locs ls hkd hC hI hl
          have hk : k < qa_n y := by omega
          refine lv_iload_n hx hb d_MD_one_68 rfl (lv_at hl 0 rfl) ?_
          refine lv_aload_n hx hb d_MD_one_69 rfl (lv_at hl 1 rfl) ?_
          refine qa_get (k := 22) (i := 0) (f := 0) (val := .int (nI (qa_n y))) E hC Nat.one_pos rfl rfl (by decide) f_MD_73 rfl rfl d_MD_one_70 ?_
          refine lv_icmp_ge hx hb d_MD_one_73 rfl (fun h9 => absurd h9 (nI_ge hk (by omega))) (fun _ => ?_)
          refine lv_iconst (v := 0) hx hb d_MD_one_76 (by decide) ?_
          refine lv_istore_n hx hb d_MD_one_77 rfl hl (by decide) rfl (fun ls hl => ?_)
          have hl : lv_has ls 3 [(2, .int 0), (1, .int (nI k)), (0, .ref (qa_a y 22 0))] := hl
          have loopQ : ∀ (d q : Nat) (u : qa_M) (H : Heap) (locs : List Loc) (ls : Array Slot), q + d = qa_n y → qa_C y u s H locs → (qm_RM (qa_n y) (qm_fil w2 6 (fun b f => qm_AG y w2 b f (w2 2 f 13) &&& qm_all (qa_n y)) k q (qa_n y)) u ∧ (∀ c b f, c < 22 → u c b f = v c b f) ∧ u 22 0 4 = v 22 0 4) → lv_has ls 3 [(2, .int (nI q)), (1, .int (nI k)), (0, .ref (qa_a y 22 0))] → W p l e (qa_R 7) s m [.ref (qa_a y 22 0)].toArray below meth c H locs 0 0 (MQ below (va_Qv (fun u => qm_RM (qa_n y) (qm_FR y w) u ∧ (∀ c b f, c < 22 → u c b f = v c b f) ∧ u 22 0 4 = v 22 0 4 + qm_FS y w) (fun u t => qa_W y u t) (qa_A y)) [.ref (qa_a y 22 0)].toArray s 0 0 (qa_A y)) (F0 m 78 ls []) := by
            intro d
            induction d with
            | zero =>
              intro q u H locs ls hkd hC hQ hl
              obtain rfl : qa_n y = q := by omega
              refine lv_iload_n hx hb d_MD_one_78 rfl (lv_at hl 0 rfl) ?_
              refine lv_aload_n hx hb d_MD_one_79 rfl (lv_at hl 2 rfl) ?_
              refine qa_get (k := 22) (i := 0) (f := 0) (val := .int (nI (qa_n y))) E hC Nat.one_pos rfl rfl (by decide) f_MD_73 rfl rfl d_MD_one_80 ?_
              refine lv_icmp_ge hx hb d_MD_one_83 rfl (fun _ => ?_) (fun h9 => absurd (nI_le (Nat.le_refl _) (by omega)) h9)
              refine lv_iinc (v := nI (k + 1)) hx hb d_MD_one_124 hl (k := 1) rfl (nI_1 k) (by decide) rfl (fun ls hl => ?_)
              have hl : lv_has ls 3 [(1, .int (nI (k + 1))), (2, .int (nI (qa_n y))), (0, .ref (qa_a y 22 0))] := hl
              refine lv_goto hx hb d_MD_one_127 rfl ?_
              refine ih (k + 1) u H locs ls (by omega) hC ⟨by rw [← qm_fil_r]; exact hQ.1, hQ.2⟩ (lv_sub hl [0, 2] rfl)
            | succ d ihQ =>
              intro q u H locs ls hkd hC hQ hl
              have hq : q < qa_n y := by omega
              have sx2 : ∀ b f, f ≠ 13 → (qm_fil w2 6 (fun b f => qm_AG y w2 b f (w2 2 f 13) &&& qm_all (qa_n y)) k q (qa_n y)) 2 b f = w2 2 b f := fun b f h => by rw [qm_fil_k (by decide)]
              have sx3 : ∀ b f, (qm_fil w2 6 (fun b f => qm_AG y w2 b f (w2 2 f 13) &&& qm_all (qa_n y)) k q (qa_n y)) 3 b f = w2 3 b f := fun b f => by rw [qm_fil_k (by decide)]
              have sx0 : (qm_fil w2 6 (fun b f => qm_AG y w2 b f (w2 2 f 13) &&& qm_all (qa_n y)) k q (qa_n y)) 0 0 11 = w2 0 0 11 := by rw [qm_fil_k (by decide)]
              have hMs : qm_mok y (qm_fil w2 6 (fun b f => qm_AG y w2 b f (w2 2 f 13) &&& qm_all (qa_n y)) k q (qa_n y)) := qm_mok_n (fun i => sx2 i 11 (by decide)) hM2
              have hFs : qm_fok (qm_fil w2 6 (fun b f => qm_AG y w2 b f (w2 2 f 13) &&& qm_all (qa_n y)) k q (qa_n y)) := by
                obtain ⟨F9, g1, g2⟩ := hF2
                exact ⟨F9, g1, by rw [sx0]; exact g2⟩
              refine lv_iload_n hx hb d_MD_one_78 rfl (lv_at hl 0 rfl) ?_
              refine lv_aload_n hx hb d_MD_one_79 rfl (lv_at hl 2 rfl) ?_
              refine qa_get (k := 22) (i := 0) (f := 0) (val := .int (nI (qa_n y))) E hC Nat.one_pos rfl rfl (by decide) f_MD_73 rfl rfl d_MD_one_80 ?_
              refine lv_icmp_ge hx hb d_MD_one_83 rfl (fun h9 => absurd h9 (nI_ge hq (by omega))) (fun _ => ?_)
              refine lv_aload_n hx hb d_MD_one_86 rfl (lv_at hl 2 rfl) ?_
              refine qa_get (k := 22) (i := 0) (f := 16) (val := .ref (qa_a y 34 0)) E hC Nat.one_pos rfl rfl (by decide) f_MD_43 rfl rfl d_MD_one_87 ?_
              refine lv_bipush (v := 7) hx hb d_MD_one_90 (by decide) ?_
              refine lv_iload_n hx hb d_MD_one_92 rfl (lv_at hl 1 rfl) ?_
              refine lv_imul hx hb d_MD_one_93 ?_
              refine lv_iload_n hx hb d_MD_one_94 rfl (lv_at hl 0 rfl) ?_
              refine lv_iadd hx hb d_MD_one_95 ?_
              refine lv_aload_n hx hb d_MD_one_96 rfl (lv_at hl 2 rfl) ?_
              refine lv_iload_n hx hb d_MD_one_97 rfl (lv_at hl 1 rfl) ?_
              refine lv_iload_n hx hb d_MD_one_98 rfl (lv_at hl 0 rfl) ?_
              refine lv_aload_n hx hb d_MD_one_99 rfl (lv_at hl 2 rfl) ?_
              refine qa_get (k := 22) (i := 0) (f := 11) (val := .ref (qa_a y 29 0)) E hC Nat.one_pos rfl rfl (by decide) f_MD_28 rfl rfl d_MD_one_100 ?_
              refine lv_iload_n hx hb d_MD_one_103 rfl (lv_at hl 0 rfl) ?_
              refine qa_ild (k := 29) (i := 0) (j := q) E hC Nat.one_pos rfl rfl rfl (show q < 7 by omega) d_MD_one_104 ?_
              refine qa_mV (k := 22) (i := 0) (As := [.int (nI k), .int (nI q), .int (u 29 0 q)]) E hC (c_MD_agrees l y u k q (u 29 0 q) hk hq (qm_fil w2 6 (fun b f => qm_AG y w2 b f (w2 2 f 13) &&& qm_all (qa_n y)) k q (qa_n y)) hQ.1 hFs hMs) Nat.one_pos rfl rfl k_MD_161 (qa_fitR (by decide) (by decide)) rfl hl.1 rfl (Nat.le_of_ble_eq_true rfl) d_MD_one_105 (fun r3 u3 H locs hp3 hC => ?_)
              refine lv_iconst (v := 1) hx hb d_MD_one_108 (by decide) ?_
              refine lv_aload_n hx hb d_MD_one_109 rfl (lv_at hl 2 rfl) ?_
              refine qa_get (k := 22) (i := 0) (f := 0) (val := .int (nI (qa_n y))) E hC Nat.one_pos rfl rfl (by decide) f_MD_73 rfl rfl d_MD_one_110 ?_
              refine lv_ishl hx hb d_MD_one_113 ?_
              refine lv_iconst (v := 1) hx hb d_MD_one_114 (by decide) ?_
              refine lv_isub hx hb d_MD_one_115 ?_
              refine lv_iand hx hb d_MD_one_116 ?_
              refine qa_ist (k := 34) (i := 0) (j := ((7 * k) + q)) E hC Nat.one_pos rfl rfl (qn_add (qn_mul rfl rfl) rfl) (show (7 * k) + q < 49 by omega) d_MD_one_117 (fun H locs hC => ?_)
              refine lv_iinc (v := nI (q + 1)) hx hb d_MD_one_118 hl (k := 0) rfl (nI_1 q) (by decide) rfl (fun ls hl => ?_)
              have hl : lv_has ls 3 [(2, .int (nI (q + 1))), (1, .int (nI k)), (0, .ref (qa_a y 22 0))] := hl
              refine lv_goto hx hb d_MD_one_121 rfl ?_
              refine ihQ (q + 1) _ H locs ls (by omega) hC ⟨?_, fun c b f h => ?_, ?_⟩ (lv_sub hl [0, 1, 2] rfl)
              · rw [← qm_fil_s (x := (r3 &&& (((1 : Int32) <<< (nI (qa_n y) &&& 31)) - 1))) hq (by rw [hp3.1, qm_AG_m sx2 sx3 sx0, qr_blm hQ.1 hq, qm_fil_k (by decide)]; rfl)]
                exact qm_RM_up hn7 (qm_RM_n hQ.1 (fun c b f _ _ _ h43 _ => hp3.2 c b f h43)) (qm_mu_c hk hq)
              · rw [qa_up_k (by omega), hp3.2 c b f (by omega)]; exact hQ.2.1 c b f h
              · rw [qa_up_k (by omega), hp3.2 22 0 4 (by omega)]; exact hQ.2.2
          exact loopQ (qa_n y) 0 u H locs ls (by omega) hC hI (lv_sub hl [0, 1, 2] rfl)
      exact loop2 (qa_n y) 0 u1 H locs ls (by omega) hC ⟨by rw [qm_fil_0]; exact i2.1, i2.2⟩ (lv_sub hl [0, 1] rfl)
    | succ d ih =>
      intro k u H locs ls hkd hC hI hl
      have hk : k < qa_n y := by omega
      refine lv_iload_n hx hb d_MD_one_2 rfl (lv_at hl 0 rfl) ?_
      refine lv_aload_n hx hb d_MD_one_3 rfl (lv_at hl 1 rfl) ?_
      refine qa_get (k := 22) (i := 0) (f := 0) (val := .int (nI (qa_n y))) E hC Nat.one_pos rfl rfl (by decide) f_MD_73 rfl rfl d_MD_one_4 ?_
      refine lv_icmp_ge hx hb d_MD_one_7 rfl (fun h9 => absurd h9 (nI_ge hk (by omega))) (fun _ => ?_)
      refine lv_aload_n hx hb d_MD_one_10 rfl (lv_at hl 1 rfl) ?_
      refine qa_get (k := 22) (i := 0) (f := 11) (val := .ref (qa_a y 29 0)) E hC Nat.one_pos rfl rfl (by decide) f_MD_28 rfl rfl d_MD_one_11 ?_
      refine lv_iload_n hx hb d_MD_one_14 rfl (lv_at hl 0 rfl) ?_
      refine lv_iconst (v := 0) hx hb d_MD_one_15 (by decide) ?_
      refine qa_ist (k := 29) (i := 0) (j := k) E hC Nat.one_pos rfl rfl rfl (show k < 7 by omega) d_MD_one_16 (fun H locs hC => ?_)
      refine lv_iconst (v := 0) hx hb d_MD_one_17 (by decide) ?_
      refine lv_istore_n hx hb d_MD_one_18 rfl hl (by decide) rfl (fun ls hl => ?_)
      have hl : lv_has ls 3 [(2, .int 0), (1, .int (nI k)), (0, .ref (qa_a y 22 0))] := hl
      have loopQ : ∀ (d q : Nat) (u : qa_M) (H : Heap) (locs : List Loc) (ls : Array Slot), q + d = qa_n y → qa_C y u s H locs → (qm_RM (qa_n y) (qm_fil (qm_col w0 13 (fun _ => 0) (k + 1)) 5 (fun b f => qm_AG y w0 b f (w0 2 f 8)) k q (qa_n y)) u ∧ (∀ c b f, c < 22 → u c b f = v c b f) ∧ u 22 0 4 = v 22 0 4) → lv_has ls 3 [(2, .int (nI q)), (1, .int (nI k)), (0, .ref (qa_a y 22 0))] → W p l e (qa_R 7) s m [.ref (qa_a y 22 0)].toArray below meth c H locs 0 0 (MQ below (va_Qv (fun u => qm_RM (qa_n y) (qm_FR y w) u ∧ (∀ c b f, c < 22 → u c b f = v c b f) ∧ u 22 0 4 = v 22 0 4 + qm_FS y w) (fun u t => qa_W y u t) (qa_A y)) [.ref (qa_a y 22 0)].toArray s 0 0 (qa_A y)) (F0 m 19 ls []) := by
        intro d
        induction d with
        | zero =>
          intro q u H locs ls hkd hC hQ hl
          obtain rfl : qa_n y = q := by omega
          refine lv_iload_n hx hb d_MD_one_19 rfl (lv_at hl 0 rfl) ?_
          refine lv_aload_n hx hb d_MD_one_20 rfl (lv_at hl 2 rfl) ?_
          refine qa_get (k := 22) (i := 0) (f := 0) (val := .int (nI (qa_n y))) E hC Nat.one_pos rfl rfl (by decide) f_MD_73 rfl rfl d_MD_one_21 ?_
          refine lv_icmp_ge hx hb d_MD_one_24 rfl (fun _ => ?_) (fun h9 => absurd (nI_le (Nat.le_refl _) (by omega)) h9)
          refine lv_iinc (v := nI (k + 1)) hx hb d_MD_one_56 hl (k := 1) rfl (nI_1 k) (by decide) rfl (fun ls hl => ?_)
          have hl : lv_has ls 3 [(1, .int (nI (k + 1))), (2, .int (nI (qa_n y))), (0, .ref (qa_a y 22 0))] := hl
          refine lv_goto hx hb d_MD_one_59 rfl ?_
          refine ih (k + 1) u H locs ls (by omega) hC ⟨by rw [← qm_fil_r]; exact hQ.1, hQ.2⟩ (lv_sub hl [0, 2] rfl)
        | succ d ihQ =>
          intro q u H locs ls hkd hC hQ hl
          have hq : q < qa_n y := by omega
          have sx2 : ∀ b f, f ≠ 13 → (qm_fil (qm_col w0 13 (fun _ => 0) (k + 1)) 5 (fun b f => qm_AG y w0 b f (w0 2 f 8)) k q (qa_n y)) 2 b f = w0 2 b f := fun b f h => by rw [qm_fil_k (by decide), qm_col_k (fun z => h z.2)]
          have sx3 : ∀ b f, (qm_fil (qm_col w0 13 (fun _ => 0) (k + 1)) 5 (fun b f => qm_AG y w0 b f (w0 2 f 8)) k q (qa_n y)) 3 b f = w0 3 b f := fun b f => by rw [qm_fil_k (by decide), qm_col_k (by omega)]
          have sx0 : (qm_fil (qm_col w0 13 (fun _ => 0) (k + 1)) 5 (fun b f => qm_AG y w0 b f (w0 2 f 8)) k q (qa_n y)) 0 0 11 = w0 0 0 11 := by rw [qm_fil_k (by decide), qm_col_k (by omega)]
          have hMs : qm_mok y (qm_fil (qm_col w0 13 (fun _ => 0) (k + 1)) 5 (fun b f => qm_AG y w0 b f (w0 2 f 8)) k q (qa_n y)) := qm_mok_n (fun i => sx2 i 11 (by decide)) hM0
          have hFs : qm_fok (qm_fil (qm_col w0 13 (fun _ => 0) (k + 1)) 5 (fun b f => qm_AG y w0 b f (w0 2 f 8)) k q (qa_n y)) := by
            obtain ⟨F9, g1, g2⟩ := hF0
            exact ⟨F9, g1, by rw [sx0]; exact g2⟩
          refine lv_iload_n hx hb d_MD_one_19 rfl (lv_at hl 0 rfl) ?_
          refine lv_aload_n hx hb d_MD_one_20 rfl (lv_at hl 2 rfl) ?_
          refine qa_get (k := 22) (i := 0) (f := 0) (val := .int (nI (qa_n y))) E hC Nat.one_pos rfl rfl (by decide) f_MD_73 rfl rfl d_MD_one_21 ?_
          refine lv_icmp_ge hx hb d_MD_one_24 rfl (fun h9 => absurd h9 (nI_ge hq (by omega))) (fun _ => ?_)
          refine lv_aload_n hx hb d_MD_one_27 rfl (lv_at hl 2 rfl) ?_
          refine qa_get (k := 22) (i := 0) (f := 15) (val := .ref (qa_a y 33 0)) E hC Nat.one_pos rfl rfl (by decide) f_MD_40 rfl rfl d_MD_one_28 ?_
          refine lv_bipush (v := 7) hx hb d_MD_one_31 (by decide) ?_
          refine lv_iload_n hx hb d_MD_one_33 rfl (lv_at hl 1 rfl) ?_
          refine lv_imul hx hb d_MD_one_34 ?_
          refine lv_iload_n hx hb d_MD_one_35 rfl (lv_at hl 0 rfl) ?_
          refine lv_iadd hx hb d_MD_one_36 ?_
          refine lv_aload_n hx hb d_MD_one_37 rfl (lv_at hl 2 rfl) ?_
          refine lv_iload_n hx hb d_MD_one_38 rfl (lv_at hl 1 rfl) ?_
          refine lv_iload_n hx hb d_MD_one_39 rfl (lv_at hl 0 rfl) ?_
          refine lv_aload_n hx hb d_MD_one_40 rfl (lv_at hl 2 rfl) ?_
          refine qa_get (k := 22) (i := 0) (f := 7) (val := .ref (qa_a y 25 0)) E hC Nat.one_pos rfl rfl (by decide) f_MD_16 rfl rfl d_MD_one_41 ?_
          refine lv_iload_n hx hb d_MD_one_44 rfl (lv_at hl 0 rfl) ?_
          refine qa_ild (k := 25) (i := 0) (j := q) E hC Nat.one_pos rfl rfl rfl (show q < 7 by omega) d_MD_one_45 ?_
          refine qa_mV (k := 22) (i := 0) (As := [.int (nI k), .int (nI q), .int (u 25 0 q)]) E hC (c_MD_agrees l y u k q (u 25 0 q) hk hq (qm_fil (qm_col w0 13 (fun _ => 0) (k + 1)) 5 (fun b f => qm_AG y w0 b f (w0 2 f 8)) k q (qa_n y)) hQ.1 hFs hMs) Nat.one_pos rfl rfl k_MD_161 (qa_fitR (by decide) (by decide)) rfl hl.1 rfl (Nat.le_of_ble_eq_true rfl) d_MD_one_46 (fun r4 u4 H locs hp4 hC => ?_)
          refine qa_ist (k := 33) (i := 0) (j := ((7 * k) + q)) E hC Nat.one_pos rfl rfl (qn_add (qn_mul rfl rfl) rfl) (show (7 * k) + q < 56 by omega) d_MD_one_49 (fun H locs hC => ?_)
          refine lv_iinc (v := nI (q + 1)) hx hb d_MD_one_50 hl (k := 0) rfl (nI_1 q) (by decide) rfl (fun ls hl => ?_)
          have hl : lv_has ls 3 [(2, .int (nI (q + 1))), (1, .int (nI k)), (0, .ref (qa_a y 22 0))] := hl
          refine lv_goto hx hb d_MD_one_53 rfl ?_
          refine ihQ (q + 1) _ H locs ls (by omega) hC ⟨?_, fun c b f h => ?_, ?_⟩ (lv_sub hl [0, 1, 2] rfl)
          · rw [← qm_fil_s (x := r4) hq (by rw [hp4.1, qm_AG_m sx2 sx3 sx0, qr_sen hQ.1 hq, sx2 q 8 (by decide)])]
            exact qm_RM_up hn7 (qm_RM_n hQ.1 (fun c b f _ _ _ h43 _ => hp4.2 c b f h43)) (qm_mu_i hk hq)
          · rw [qa_up_k (by omega), hp4.2 c b f (by omega)]; exact hQ.2.1 c b f h
          · rw [qa_up_k (by omega), hp4.2 22 0 4 (by omega)]; exact hQ.2.2
      refine loopQ (qa_n y) 0 _ H locs ls (by omega) hC ⟨?_, fun c b f h => ?_, ?_⟩ (lv_sub hl [0, 1, 2] rfl)
      · rw [← qm_fc]; exact qm_RM_up hn7 hI.1 (qm_mu_2 (k := 29) (c := 13) hk (by omega))
      · rw [qa_up_k (by omega)]; exact hI.2.1 c b f h
      · rw [qa_up_k (by omega)]; exact hI.2.2
  refine lv_iconst (v := 0) hx hb d_MD_one_0 (by decide) ?_
  refine lv_istore_n hx hb d_MD_one_1 rfl hl (by decide) rfl (fun ls hl => ?_)
  have hl : lv_has ls 3 [(1, .int 0), (0, .ref (qa_a y 22 0))] := hl
  exact loop1 (qa_n y) 0 v _ _ ls (by omega) hC ⟨by rw [qm_col_0, qm_fil_0]; exact hR0, fun _ _ _ _ => rfl, rfl⟩ (lv_sub hl [0, 1] rfl)
