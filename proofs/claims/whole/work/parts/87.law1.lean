set_option maxHeartbeats 4000000 in
set_option maxRecDepth 100000 in
theorem qL_loop {p : Program} {e : Env} {s : State} {m : MethodId} {below : List Frame} {meth : Method} {c : Code} (l : Launch) {b L : Nat} {xs : Nat → Int32} {y : qa_L} (hL : L ≤ 2563) (E : qa_E p m c code 4 s #[Value.ref b] "VotedFramesLaw" y) (hX : va_X b L xs s s.heap) (hbl : b < s.heap.size) (hbA : ¬ qa_A y b) (hA : ∀ q, qa_A y q → s.heap.size ≤ q) (hr : meth.sig.returnType = ret) (hlocks : meth.locks = false) : ∀ (d j F : Nat) (u : qa_M) (H : Heap) (locs : List Loc) (ls : Array Slot), L < 8 + 5 * j + 5 * d → j ≤ 513 → F ≤ 4 * j → qa_C y u s H locs → qL_I y F u → lv_has ls 4 [(3, .int (nI (3 + 5 * j))), (0, .ref b), (1, .ref (qa_a y 0 0)), (2, .ref (qa_a y 22 0))] → W p l e room_1 s m #[Value.ref b] below meth c H locs (600000) (7302250) (lw_Z below #[Value.ref b] s) (F0 m 48 ls []) := by
  have hx := E.1.1
  have hb := E.1.2.1
  have hn4 : 4 ≤ qa_n y := E.2.1.2.2.1
  have hn7 : qa_n y ≤ 7 := E.2.1.2.2.2.1
  intro d
  induction d with
  | zero =>
    intro j F u H locs ls hd hj hF hC hI hl
    refine lv_iload_n hx hb d_LW_law_48 rfl (lv_at hl 0 rfl) ?_
    refine lv_aload_n hx hb d_LW_law_49 rfl (lv_at hl 1 rfl) ?_
    refine qL_len0 hx hb hX hbl hbA hC.2 d_LW_law_50 ?_
    refine lv_iconst (v := 5) hx hb d_LW_law_51 (by decide) ?_
    refine lv_isub hx hb d_LW_law_52 ?_
    refine lv_icmp_gt hx hb d_LW_law_53 rfl (fun _ => ?_) (fun h9 => absurd ((qL_gt hL (by omega)).mpr (by omega)) h9)
    refine lv_iconst (v := 1) hx hb d_LW_law_742 (by decide) ?_
    exact va_forget (fun q hq => hA _ (hC.2.2.2 q hq)) (lw_ret hx hb hr hlocks d_LW_law_743)
  | succ d ih =>
    intro j F u H locs ls hd hj hF hC hI hl
    by_cases hlt : L < 8 + 5 * j
    · refine lv_iload_n hx hb d_LW_law_48 rfl (lv_at hl 0 rfl) ?_
      refine lv_aload_n hx hb d_LW_law_49 rfl (lv_at hl 1 rfl) ?_
      refine qL_len0 hx hb hX hbl hbA hC.2 d_LW_law_50 ?_
      refine lv_iconst (v := 5) hx hb d_LW_law_51 (by decide) ?_
      refine lv_isub hx hb d_LW_law_52 ?_
      refine lv_icmp_gt hx hb d_LW_law_53 rfl (fun _ => ?_) (fun h9 => absurd ((qL_gt hL (by omega)).mpr hlt) h9)
      refine lv_iconst (v := 1) hx hb d_LW_law_742 (by decide) ?_
      exact va_forget (fun q hq => hA _ (hC.2.2.2 q hq)) (lw_ret hx hb hr hlocks d_LW_law_743)
    · refine lv_iload_n hx hb d_LW_law_48 rfl (lv_at hl 0 rfl) ?_
      refine lv_aload_n hx hb d_LW_law_49 rfl (lv_at hl 1 rfl) ?_
      refine qL_len0 hx hb hX hbl hbA hC.2 d_LW_law_50 ?_
      refine lv_iconst (v := 5) hx hb d_LW_law_51 (by decide) ?_
      refine lv_isub hx hb d_LW_law_52 ?_
      refine lv_icmp_gt hx hb d_LW_law_53 rfl (fun h9 => absurd h9 (fun q => hlt ((qL_gt hL (by omega)).mp q))) (fun _ => ?_)
      refine lv_aload_n hx hb d_LW_law_56 rfl (lv_at hl 1 rfl) ?_
      refine lv_iload_n hx hb d_LW_law_57 rfl (lv_at hl 0 rfl) ?_
      refine qL_ld (j := (3 + 5 * j)) hx hb hX hbl hbA hC.2 rfl (by omega) hL d_LW_law_58 ?_
      refine lv_bipush (v := 31) hx hb d_LW_law_59 (by decide) ?_
      refine lv_iand hx hb d_LW_law_61 ?_
      rcases qL_sw ((xs (3 + 5 * j)) &&& 31) with k62 | k62 | k62 | k62 | k62 | k62 | k62 | k62 | k62 | k62 | k62 | k62 | k62 | k62 | k62 | k62 | k62 | k62 | k62 | k62 | k62
      · refine lv_tableIn (off := 94) (tgt := 156) hx hb d_LW_law_62 (by rw [k62]; decide) (by rw [k62]; decide) (by rw [k62]; rfl) rfl ?_
        refine lv_aload_n hx hb d_LW_law_156 rfl (lv_at hl 2 rfl) ?_
        refine lv_aload_n hx hb d_LW_law_157 rfl (lv_at hl 1 rfl) ?_
        refine lv_iload_n hx hb d_LW_law_158 rfl (lv_at hl 0 rfl) ?_
        refine lv_iconst (v := 1) hx hb d_LW_law_159 (by decide) ?_
        refine lv_iadd hx hb d_LW_law_160 ?_
        refine qL_ld (j := ((3 + 5 * j) + 1)) hx hb hX hbl hbA hC.2 (qn_add rfl rfl) (by omega) hL d_LW_law_161 ?_
        refine lv_aload_n hx hb d_LW_law_162 rfl (lv_at hl 1 rfl) ?_
        refine lv_iload_n hx hb d_LW_law_163 rfl (lv_at hl 0 rfl) ?_
        refine lv_iconst (v := 2) hx hb d_LW_law_164 (by decide) ?_
        refine lv_iadd hx hb d_LW_law_165 ?_
        refine qL_ld (j := ((3 + 5 * j) + 2)) hx hb hX hbl hbA hC.2 (qn_add rfl rfl) (by omega) hL d_LW_law_166 ?_
        refine lv_aload_n hx hb d_LW_law_167 rfl (lv_at hl 1 rfl) ?_
        refine lv_iload_n hx hb d_LW_law_168 rfl (lv_at hl 0 rfl) ?_
        refine lv_iconst (v := 3) hx hb d_LW_law_169 (by decide) ?_
        refine lv_iadd hx hb d_LW_law_170 ?_
        refine qL_ld (j := ((3 + 5 * j) + 3)) hx hb hX hbl hbA hC.2 (qn_add rfl rfl) (by omega) hL d_LW_law_171 ?_
        refine qa_mV (k := 0) (i := 0) (As := [.int (xs ((3 + 5 * j) + 1)), .int (xs ((3 + 5 * j) + 2)), .int (xs ((3 + 5 * j) + 3))]) E hC (c_VF_clock l y u (xs ((3 + 5 * j) + 1)) (xs ((3 + 5 * j) + 2)) (xs ((3 + 5 * j) + 3))) Nat.one_pos rfl rfl k_LW_21 (qL_fit (by decide) (by decide)) rfl hl.1 rfl (Nat.le_of_ble_eq_true rfl) d_LW_law_172 (fun r1 u1 H locs hp1 hC => ?_)
        have hR1 : qm_RM (qa_n y) u u1 := qL_RM_c hI.1 (fun c9 h9 => by
          rw [hp1.2]
          split
          · rw [qa_up_kk (by omega), qa_up_kk (by omega)]
          · rfl)
        refine lv_aload_n hx hb d_LW_law_175 rfl (lv_at hl 3 rfl) ?_
        refine lv_aload_n hx hb d_LW_law_176 rfl (lv_at hl 1 rfl) ?_
        refine lv_iload_n hx hb d_LW_law_177 rfl (lv_at hl 0 rfl) ?_
        refine lv_iconst (v := 1) hx hb d_LW_law_178 (by decide) ?_
        refine lv_iadd hx hb d_LW_law_179 ?_
        refine qL_ld (j := ((3 + 5 * j) + 1)) hx hb hX hbl hbA hC.2 (qn_add rfl rfl) (by omega) hL d_LW_law_180 ?_
        refine lv_aload_n hx hb d_LW_law_181 rfl (lv_at hl 1 rfl) ?_
        refine lv_iload_n hx hb d_LW_law_182 rfl (lv_at hl 0 rfl) ?_
        refine lv_iconst (v := 2) hx hb d_LW_law_183 (by decide) ?_
        refine lv_iadd hx hb d_LW_law_184 ?_
        refine qL_ld (j := ((3 + 5 * j) + 2)) hx hb hX hbl hbA hC.2 (qn_add rfl rfl) (by omega) hL d_LW_law_185 ?_
        refine lv_aload_n hx hb d_LW_law_186 rfl (lv_at hl 1 rfl) ?_
        refine lv_iload_n hx hb d_LW_law_187 rfl (lv_at hl 0 rfl) ?_
        refine lv_iconst (v := 3) hx hb d_LW_law_188 (by decide) ?_
        refine lv_iadd hx hb d_LW_law_189 ?_
        refine qL_ld (j := ((3 + 5 * j) + 3)) hx hb hX hbl hbA hC.2 (qn_add rfl rfl) (by omega) hL d_LW_law_190 ?_
        refine qa_mV (k := 22) (i := 0) (As := [.int (xs ((3 + 5 * j) + 1)), .int (xs ((3 + 5 * j) + 2)), .int (xs ((3 + 5 * j) + 3))]) E hC (c_MD_clock l y u1 (xs ((3 + 5 * j) + 1)) (xs ((3 + 5 * j) + 2)) (xs ((3 + 5 * j) + 3)) u hR1) Nat.one_pos rfl rfl k_LW_25 (qL_fit (by decide) (by decide)) rfl hl.1 rfl (Nat.le_of_ble_eq_true rfl) d_LW_law_191 (fun r2 u2 H locs hp2 hC => ?_)
        have hJ1 : qL_J y F u1 := by
          rw [hp1.2]
          split
          · rename_i q
            exact qL_clock q hI.2
          · exact hI.2
        have hR2 : qm_RM (qa_n y) u1 u2 := by
          have q := hp2.2.1
          rw [← hp1.2] at q
          exact q
        have hI2 : ∃ F2, F2 ≤ F + 4 ∧ qL_I y F2 u2 := ⟨F, by omega, qL_step (qm_eq_r u1) hR2 hp2.2.2 hJ1⟩
        refine lv_icmp_eq hx hb d_LW_law_194 rfl (fun _ => ?_) (fun h9 => absurd (hp1.1.trans hp2.1.symm) h9)
        obtain ⟨F2, hF2, hI2⟩ := hI2
        refine lv_iinc (v := nI (3 + 5 * (j + 1))) hx hb d_LW_law_736 hl (k := 0) rfl (by rw [show 3 + 5 * (j + 1) = 3 + 5 * j + 5 by omega]; exact nI_add (3 + 5 * j) 5) (by decide) rfl (fun ls hl => ?_)
        refine lv_goto hx hb d_LW_law_739 rfl ?_
        exact ih (j + 1) F2 u2 H locs ls (by omega) (by omega) (by omega) hC hI2 hl
      · refine lv_tableIn (off := 137) (tgt := 199) hx hb d_LW_law_62 (by rw [k62]; decide) (by rw [k62]; decide) (by rw [k62]; rfl) rfl ?_
        refine lv_aload_n hx hb d_LW_law_199 rfl (lv_at hl 2 rfl) ?_
        refine lv_aload_n hx hb d_LW_law_200 rfl (lv_at hl 1 rfl) ?_
        refine lv_iload_n hx hb d_LW_law_201 rfl (lv_at hl 0 rfl) ?_
        refine lv_iconst (v := 1) hx hb d_LW_law_202 (by decide) ?_
        refine lv_iadd hx hb d_LW_law_203 ?_
        refine qL_ld (j := ((3 + 5 * j) + 1)) hx hb hX hbl hbA hC.2 (qn_add rfl rfl) (by omega) hL d_LW_law_204 ?_
        refine lv_aload_n hx hb d_LW_law_205 rfl (lv_at hl 1 rfl) ?_
        refine lv_iload_n hx hb d_LW_law_206 rfl (lv_at hl 0 rfl) ?_
        refine lv_iconst (v := 2) hx hb d_LW_law_207 (by decide) ?_
        refine lv_iadd hx hb d_LW_law_208 ?_
        refine qL_ld (j := ((3 + 5 * j) + 2)) hx hb hX hbl hbA hC.2 (qn_add rfl rfl) (by omega) hL d_LW_law_209 ?_
        refine lv_aload_n hx hb d_LW_law_210 rfl (lv_at hl 1 rfl) ?_
        refine lv_iload_n hx hb d_LW_law_211 rfl (lv_at hl 0 rfl) ?_
        refine lv_iconst (v := 3) hx hb d_LW_law_212 (by decide) ?_
        refine lv_iadd hx hb d_LW_law_213 ?_
        refine qL_ld (j := ((3 + 5 * j) + 3)) hx hb hX hbl hbA hC.2 (qn_add rfl rfl) (by omega) hL d_LW_law_214 ?_
        refine lv_aload_n hx hb d_LW_law_215 rfl (lv_at hl 1 rfl) ?_
        refine lv_iload_n hx hb d_LW_law_216 rfl (lv_at hl 0 rfl) ?_
        refine lv_iconst (v := 4) hx hb d_LW_law_217 (by decide) ?_
        refine lv_iadd hx hb d_LW_law_218 ?_
        refine qL_ld (j := ((3 + 5 * j) + 4)) hx hb hX hbl hbA hC.2 (qn_add rfl rfl) (by omega) hL d_LW_law_219 ?_
        refine qa_mV (k := 0) (i := 0) (As := [.int (xs ((3 + 5 * j) + 1)), .int (xs ((3 + 5 * j) + 2)), .int (xs ((3 + 5 * j) + 3)), .int (xs ((3 + 5 * j) + 4))]) E hC (c_VF_link l y u (xs ((3 + 5 * j) + 1)) (xs ((3 + 5 * j) + 2)) (xs ((3 + 5 * j) + 3)) (xs ((3 + 5 * j) + 4))) Nat.one_pos rfl rfl k_LW_26 (qL_fit (by decide) (by decide)) rfl hl.1 rfl (Nat.le_of_ble_eq_true rfl) d_LW_law_220 (fun r1 u1 H locs hp1 hC => ?_)
        have hR1 : qm_RM (qa_n y) u u1 := qL_RM_c hI.1 (fun c9 h9 => by
          rw [hp1.2]
          split
          · rw [qa_up_kk (by omega), qa_up_kk (by omega)]
          · rfl)
        refine lv_aload_n hx hb d_LW_law_223 rfl (lv_at hl 3 rfl) ?_
        refine lv_aload_n hx hb d_LW_law_224 rfl (lv_at hl 1 rfl) ?_
        refine lv_iload_n hx hb d_LW_law_225 rfl (lv_at hl 0 rfl) ?_
        refine lv_iconst (v := 1) hx hb d_LW_law_226 (by decide) ?_
        refine lv_iadd hx hb d_LW_law_227 ?_
        refine qL_ld (j := ((3 + 5 * j) + 1)) hx hb hX hbl hbA hC.2 (qn_add rfl rfl) (by omega) hL d_LW_law_228 ?_
        refine lv_aload_n hx hb d_LW_law_229 rfl (lv_at hl 1 rfl) ?_
        refine lv_iload_n hx hb d_LW_law_230 rfl (lv_at hl 0 rfl) ?_
        refine lv_iconst (v := 2) hx hb d_LW_law_231 (by decide) ?_
        refine lv_iadd hx hb d_LW_law_232 ?_
        refine qL_ld (j := ((3 + 5 * j) + 2)) hx hb hX hbl hbA hC.2 (qn_add rfl rfl) (by omega) hL d_LW_law_233 ?_
        refine lv_aload_n hx hb d_LW_law_234 rfl (lv_at hl 1 rfl) ?_
        refine lv_iload_n hx hb d_LW_law_235 rfl (lv_at hl 0 rfl) ?_
        refine lv_iconst (v := 3) hx hb d_LW_law_236 (by decide) ?_
        refine lv_iadd hx hb d_LW_law_237 ?_
        refine qL_ld (j := ((3 + 5 * j) + 3)) hx hb hX hbl hbA hC.2 (qn_add rfl rfl) (by omega) hL d_LW_law_238 ?_
        refine lv_aload_n hx hb d_LW_law_239 rfl (lv_at hl 1 rfl) ?_
        refine lv_iload_n hx hb d_LW_law_240 rfl (lv_at hl 0 rfl) ?_
        refine lv_iconst (v := 4) hx hb d_LW_law_241 (by decide) ?_
        refine lv_iadd hx hb d_LW_law_242 ?_
        refine qL_ld (j := ((3 + 5 * j) + 4)) hx hb hX hbl hbA hC.2 (qn_add rfl rfl) (by omega) hL d_LW_law_243 ?_
        refine qa_mV (k := 22) (i := 0) (As := [.int (xs ((3 + 5 * j) + 1)), .int (xs ((3 + 5 * j) + 2)), .int (xs ((3 + 5 * j) + 3)), .int (xs ((3 + 5 * j) + 4))]) E hC (c_MD_link l y u1 (xs ((3 + 5 * j) + 1)) (xs ((3 + 5 * j) + 2)) (xs ((3 + 5 * j) + 3)) (xs ((3 + 5 * j) + 4)) u hR1) Nat.one_pos rfl rfl k_LW_30 (qL_fit (by decide) (by decide)) rfl hl.1 rfl (Nat.le_of_ble_eq_true rfl) d_LW_law_244 (fun r2 u2 H locs hp2 hC => ?_)
        have hJ1 : qL_J y F u1 := by
          rw [hp1.2]
          split
          · exact qL_J_up (by omega) (qL_J_up (by omega) hI.2)
          · exact hI.2
        have hR2 : qm_RM (qa_n y) u1 u2 := by
          have q := hp2.2.1
          rw [← hp1.2] at q
          exact q
        have hI2 : ∃ F2, F2 ≤ F + 4 ∧ qL_I y F2 u2 := ⟨F, by omega, qL_step (qm_eq_r u1) hR2 hp2.2.2 hJ1⟩
        refine lv_icmp_eq hx hb d_LW_law_247 rfl (fun _ => ?_) (fun h9 => absurd (hp1.1.trans hp2.1.symm) h9)
        obtain ⟨F2, hF2, hI2⟩ := hI2
        refine lv_iinc (v := nI (3 + 5 * (j + 1))) hx hb d_LW_law_736 hl (k := 0) rfl (by rw [show 3 + 5 * (j + 1) = 3 + 5 * j + 5 by omega]; exact nI_add (3 + 5 * j) 5) (by decide) rfl (fun ls hl => ?_)
        refine lv_goto hx hb d_LW_law_739 rfl ?_
        exact ih (j + 1) F2 u2 H locs ls (by omega) (by omega) (by omega) hC hI2 hl
      · refine lv_tableIn (off := 190) (tgt := 252) hx hb d_LW_law_62 (by rw [k62]; decide) (by rw [k62]; decide) (by rw [k62]; rfl) rfl ?_
        refine lv_aload_n hx hb d_LW_law_252 rfl (lv_at hl 2 rfl) ?_
        refine lv_aload_n hx hb d_LW_law_253 rfl (lv_at hl 1 rfl) ?_
        refine lv_iload_n hx hb d_LW_law_254 rfl (lv_at hl 0 rfl) ?_
        refine lv_iconst (v := 1) hx hb d_LW_law_255 (by decide) ?_
        refine lv_iadd hx hb d_LW_law_256 ?_
        refine qL_ld (j := ((3 + 5 * j) + 1)) hx hb hX hbl hbA hC.2 (qn_add rfl rfl) (by omega) hL d_LW_law_257 ?_
        refine lv_aload_n hx hb d_LW_law_258 rfl (lv_at hl 1 rfl) ?_
        refine lv_iload_n hx hb d_LW_law_259 rfl (lv_at hl 0 rfl) ?_
        refine lv_iconst (v := 2) hx hb d_LW_law_260 (by decide) ?_
        refine lv_iadd hx hb d_LW_law_261 ?_
        refine qL_ld (j := ((3 + 5 * j) + 2)) hx hb hX hbl hbA hC.2 (qn_add rfl rfl) (by omega) hL d_LW_law_262 ?_
        refine qa_mV (k := 0) (i := 0) (As := [.int (xs ((3 + 5 * j) + 1)), .int (xs ((3 + 5 * j) + 2))]) E hC (c_VF_sensor l y u (xs ((3 + 5 * j) + 1)) (xs ((3 + 5 * j) + 2))) Nat.one_pos rfl rfl k_LW_31 (qL_fit (by decide) (by decide)) rfl hl.1 rfl (Nat.le_of_ble_eq_true rfl) d_LW_law_263 (fun r1 u1 H locs hp1 hC => ?_)
        have hR1 : qm_RM (qa_n y) u u1 := qL_RM_c hI.1 (fun c9 h9 => by
          rw [hp1.2]
          split
          · rw [qa_up_kk (by omega)]
          · rfl)
        refine lv_aload_n hx hb d_LW_law_266 rfl (lv_at hl 3 rfl) ?_
        refine lv_aload_n hx hb d_LW_law_267 rfl (lv_at hl 1 rfl) ?_
        refine lv_iload_n hx hb d_LW_law_268 rfl (lv_at hl 0 rfl) ?_
        refine lv_iconst (v := 1) hx hb d_LW_law_269 (by decide) ?_
        refine lv_iadd hx hb d_LW_law_270 ?_
        refine qL_ld (j := ((3 + 5 * j) + 1)) hx hb hX hbl hbA hC.2 (qn_add rfl rfl) (by omega) hL d_LW_law_271 ?_
        refine lv_aload_n hx hb d_LW_law_272 rfl (lv_at hl 1 rfl) ?_
        refine lv_iload_n hx hb d_LW_law_273 rfl (lv_at hl 0 rfl) ?_
        refine lv_iconst (v := 2) hx hb d_LW_law_274 (by decide) ?_
        refine lv_iadd hx hb d_LW_law_275 ?_
        refine qL_ld (j := ((3 + 5 * j) + 2)) hx hb hX hbl hbA hC.2 (qn_add rfl rfl) (by omega) hL d_LW_law_276 ?_
        refine qa_mV (k := 22) (i := 0) (As := [.int (xs ((3 + 5 * j) + 1)), .int (xs ((3 + 5 * j) + 2))]) E hC (c_MD_sensor l y u1 (xs ((3 + 5 * j) + 1)) (xs ((3 + 5 * j) + 2)) u hR1) Nat.one_pos rfl rfl k_LW_35 (qL_fit (by decide) (by decide)) rfl hl.1 rfl (Nat.le_of_ble_eq_true rfl) d_LW_law_277 (fun r2 u2 H locs hp2 hC => ?_)
        have hJ1 : qL_J y F u1 := by
          rw [hp1.2]
          split
          · exact qL_J_up (by omega) hI.2
          · exact hI.2
        have hR2 : qm_RM (qa_n y) u1 u2 := by
          have q := hp2.2.1
          rw [← hp1.2] at q
          exact q
        have hI2 : ∃ F2, F2 ≤ F + 4 ∧ qL_I y F2 u2 := ⟨F, by omega, qL_step (qm_eq_r u1) hR2 hp2.2.2 hJ1⟩
        refine lv_icmp_eq hx hb d_LW_law_280 rfl (fun _ => ?_) (fun h9 => absurd (hp1.1.trans hp2.1.symm) h9)
        obtain ⟨F2, hF2, hI2⟩ := hI2
        refine lv_iinc (v := nI (3 + 5 * (j + 1))) hx hb d_LW_law_736 hl (k := 0) rfl (by rw [show 3 + 5 * (j + 1) = 3 + 5 * j + 5 by omega]; exact nI_add (3 + 5 * j) 5) (by decide) rfl (fun ls hl => ?_)
        refine lv_goto hx hb d_LW_law_739 rfl ?_
        exact ih (j + 1) F2 u2 H locs ls (by omega) (by omega) (by omega) hC hI2 hl
      · refine lv_tableIn (off := 223) (tgt := 285) hx hb d_LW_law_62 (by rw [k62]; decide) (by rw [k62]; decide) (by rw [k62]; rfl) rfl ?_
        refine lv_aload_n hx hb d_LW_law_285 rfl (lv_at hl 2 rfl) ?_
        refine lv_aload_n hx hb d_LW_law_286 rfl (lv_at hl 1 rfl) ?_
        refine lv_iload_n hx hb d_LW_law_287 rfl (lv_at hl 0 rfl) ?_
        refine lv_iconst (v := 1) hx hb d_LW_law_288 (by decide) ?_
        refine lv_iadd hx hb d_LW_law_289 ?_
        refine qL_ld (j := ((3 + 5 * j) + 1)) hx hb hX hbl hbA hC.2 (qn_add rfl rfl) (by omega) hL d_LW_law_290 ?_
        refine lv_aload_n hx hb d_LW_law_291 rfl (lv_at hl 1 rfl) ?_
        refine lv_iload_n hx hb d_LW_law_292 rfl (lv_at hl 0 rfl) ?_
        refine lv_iconst (v := 2) hx hb d_LW_law_293 (by decide) ?_
        refine lv_iadd hx hb d_LW_law_294 ?_
        refine qL_ld (j := ((3 + 5 * j) + 2)) hx hb hX hbl hbA hC.2 (qn_add rfl rfl) (by omega) hL d_LW_law_295 ?_
        refine lv_aload_n hx hb d_LW_law_296 rfl (lv_at hl 1 rfl) ?_
        refine lv_iload_n hx hb d_LW_law_297 rfl (lv_at hl 0 rfl) ?_
        refine lv_iconst (v := 3) hx hb d_LW_law_298 (by decide) ?_
        refine lv_iadd hx hb d_LW_law_299 ?_
        refine qL_ld (j := ((3 + 5 * j) + 3)) hx hb hX hbl hbA hC.2 (qn_add rfl rfl) (by omega) hL d_LW_law_300 ?_
        refine qa_mV (k := 0) (i := 0) (As := [.int (xs ((3 + 5 * j) + 1)), .int (xs ((3 + 5 * j) + 2)), .int (xs ((3 + 5 * j) + 3))]) E hC (c_VF_fault l y u (xs ((3 + 5 * j) + 1)) (xs ((3 + 5 * j) + 2)) (xs ((3 + 5 * j) + 3))) Nat.one_pos rfl rfl k_LW_36 (qL_fit (by decide) (by decide)) rfl hl.1 rfl (Nat.le_of_ble_eq_true rfl) d_LW_law_301 (fun r1 u1 H locs hp1 hC => ?_)
        have hR1 : qm_RM (qa_n y) u u1 := qL_RM_c hI.1 (fun c9 h9 => by
          rw [hp1.2]
          split
          · rw [qa_up_kk (by omega), qa_up_kk (by omega)]
          · rfl)
        refine lv_aload_n hx hb d_LW_law_304 rfl (lv_at hl 3 rfl) ?_
        refine lv_aload_n hx hb d_LW_law_305 rfl (lv_at hl 1 rfl) ?_
        refine lv_iload_n hx hb d_LW_law_306 rfl (lv_at hl 0 rfl) ?_
        refine lv_iconst (v := 1) hx hb d_LW_law_307 (by decide) ?_
        refine lv_iadd hx hb d_LW_law_308 ?_
        refine qL_ld (j := ((3 + 5 * j) + 1)) hx hb hX hbl hbA hC.2 (qn_add rfl rfl) (by omega) hL d_LW_law_309 ?_
        refine lv_aload_n hx hb d_LW_law_310 rfl (lv_at hl 1 rfl) ?_
        refine lv_iload_n hx hb d_LW_law_311 rfl (lv_at hl 0 rfl) ?_
        refine lv_iconst (v := 2) hx hb d_LW_law_312 (by decide) ?_
        refine lv_iadd hx hb d_LW_law_313 ?_
        refine qL_ld (j := ((3 + 5 * j) + 2)) hx hb hX hbl hbA hC.2 (qn_add rfl rfl) (by omega) hL d_LW_law_314 ?_
        refine lv_aload_n hx hb d_LW_law_315 rfl (lv_at hl 1 rfl) ?_
        refine lv_iload_n hx hb d_LW_law_316 rfl (lv_at hl 0 rfl) ?_
        refine lv_iconst (v := 3) hx hb d_LW_law_317 (by decide) ?_
        refine lv_iadd hx hb d_LW_law_318 ?_
        refine qL_ld (j := ((3 + 5 * j) + 3)) hx hb hX hbl hbA hC.2 (qn_add rfl rfl) (by omega) hL d_LW_law_319 ?_
        refine qa_mV (k := 22) (i := 0) (As := [.int (xs ((3 + 5 * j) + 1)), .int (xs ((3 + 5 * j) + 2)), .int (xs ((3 + 5 * j) + 3))]) E hC (c_MD_fault l y u1 (xs ((3 + 5 * j) + 1)) (xs ((3 + 5 * j) + 2)) (xs ((3 + 5 * j) + 3)) u hR1) Nat.one_pos rfl rfl k_LW_39 (qL_fit (by decide) (by decide)) rfl hl.1 rfl (Nat.le_of_ble_eq_true rfl) d_LW_law_320 (fun r2 u2 H locs hp2 hC => ?_)
        have hJ1 : qL_J y F u1 := by
          rw [hp1.2]
          split
          · exact qL_J_up (by omega) (qL_J_up (by omega) hI.2)
          · exact hI.2
        have hR2 : qm_RM (qa_n y) u1 u2 := by
          have q := hp2.2.1
          rw [← hp1.2] at q
          exact q
        have hI2 : ∃ F2, F2 ≤ F + 4 ∧ qL_I y F2 u2 := ⟨F, by omega, qL_step (qm_eq_r u1) hR2 hp2.2.2 hJ1⟩
        refine lv_icmp_eq hx hb d_LW_law_323 rfl (fun _ => ?_) (fun h9 => absurd (hp1.1.trans hp2.1.symm) h9)
        obtain ⟨F2, hF2, hI2⟩ := hI2
        refine lv_iinc (v := nI (3 + 5 * (j + 1))) hx hb d_LW_law_736 hl (k := 0) rfl (by rw [show 3 + 5 * (j + 1) = 3 + 5 * j + 5 by omega]; exact nI_add (3 + 5 * j) 5) (by decide) rfl (fun ls hl => ?_)
        refine lv_goto hx hb d_LW_law_739 rfl ?_
        exact ih (j + 1) F2 u2 H locs ls (by omega) (by omega) (by omega) hC hI2 hl
      · refine lv_tableIn (off := 266) (tgt := 328) hx hb d_LW_law_62 (by rw [k62]; decide) (by rw [k62]; decide) (by rw [k62]; rfl) rfl ?_
        refine lv_aload_n hx hb d_LW_law_328 rfl (lv_at hl 2 rfl) ?_
        refine lv_aload_n hx hb d_LW_law_329 rfl (lv_at hl 1 rfl) ?_
        refine lv_iload_n hx hb d_LW_law_330 rfl (lv_at hl 0 rfl) ?_
        refine lv_iconst (v := 1) hx hb d_LW_law_331 (by decide) ?_
        refine lv_iadd hx hb d_LW_law_332 ?_
        refine qL_ld (j := ((3 + 5 * j) + 1)) hx hb hX hbl hbA hC.2 (qn_add rfl rfl) (by omega) hL d_LW_law_333 ?_
        refine lv_aload_n hx hb d_LW_law_334 rfl (lv_at hl 1 rfl) ?_
        refine lv_iload_n hx hb d_LW_law_335 rfl (lv_at hl 0 rfl) ?_
        refine lv_iconst (v := 2) hx hb d_LW_law_336 (by decide) ?_
        refine lv_iadd hx hb d_LW_law_337 ?_
        refine qL_ld (j := ((3 + 5 * j) + 2)) hx hb hX hbl hbA hC.2 (qn_add rfl rfl) (by omega) hL d_LW_law_338 ?_
        refine lv_aload_n hx hb d_LW_law_339 rfl (lv_at hl 1 rfl) ?_
        refine lv_iload_n hx hb d_LW_law_340 rfl (lv_at hl 0 rfl) ?_
        refine lv_iconst (v := 3) hx hb d_LW_law_341 (by decide) ?_
        refine lv_iadd hx hb d_LW_law_342 ?_
        refine qL_ld (j := ((3 + 5 * j) + 3)) hx hb hX hbl hbA hC.2 (qn_add rfl rfl) (by omega) hL d_LW_law_343 ?_
        refine qa_mV (k := 0) (i := 0) (As := [.int (xs ((3 + 5 * j) + 1)), .int (xs ((3 + 5 * j) + 2)), .int (xs ((3 + 5 * j) + 3))]) E hC (c_VF_code l y u (xs ((3 + 5 * j) + 1)) (xs ((3 + 5 * j) + 2)) (xs ((3 + 5 * j) + 3)) (fun t => qm_ix (u 13 t 2)) (qL_len hI.2)) Nat.one_pos rfl rfl k_LW_40 (qL_fit (by decide) (by decide)) rfl hl.1 rfl (Nat.le_of_ble_eq_true rfl) d_LW_law_344 (fun r1 u1 H locs hp1 hC => ?_)
        have hR1 : qm_RM (qa_n y) u u1 := qL_RM_c hI.1 (fun c9 h9 => by
          rw [hp1.2]
          split
          · rw [qa_up_kk (by omega), qa_up_kk (by omega), qa_up_kk (by omega)]
          · rfl)
        refine lv_aload_n hx hb d_LW_law_347 rfl (lv_at hl 3 rfl) ?_
        refine lv_aload_n hx hb d_LW_law_348 rfl (lv_at hl 1 rfl) ?_
        refine lv_iload_n hx hb d_LW_law_349 rfl (lv_at hl 0 rfl) ?_
        refine lv_iconst (v := 1) hx hb d_LW_law_350 (by decide) ?_
        refine lv_iadd hx hb d_LW_law_351 ?_
        refine qL_ld (j := ((3 + 5 * j) + 1)) hx hb hX hbl hbA hC.2 (qn_add rfl rfl) (by omega) hL d_LW_law_352 ?_
        refine lv_aload_n hx hb d_LW_law_353 rfl (lv_at hl 1 rfl) ?_
        refine lv_iload_n hx hb d_LW_law_354 rfl (lv_at hl 0 rfl) ?_
        refine lv_iconst (v := 2) hx hb d_LW_law_355 (by decide) ?_
        refine lv_iadd hx hb d_LW_law_356 ?_
        refine qL_ld (j := ((3 + 5 * j) + 2)) hx hb hX hbl hbA hC.2 (qn_add rfl rfl) (by omega) hL d_LW_law_357 ?_
        refine lv_aload_n hx hb d_LW_law_358 rfl (lv_at hl 1 rfl) ?_
        refine lv_iload_n hx hb d_LW_law_359 rfl (lv_at hl 0 rfl) ?_
        refine lv_iconst (v := 3) hx hb d_LW_law_360 (by decide) ?_
        refine lv_iadd hx hb d_LW_law_361 ?_
        refine qL_ld (j := ((3 + 5 * j) + 3)) hx hb hX hbl hbA hC.2 (qn_add rfl rfl) (by omega) hL d_LW_law_362 ?_
        refine qa_mV (k := 22) (i := 0) (As := [.int (xs ((3 + 5 * j) + 1)), .int (xs ((3 + 5 * j) + 2)), .int (xs ((3 + 5 * j) + 3))]) E hC (c_MD_code l y u1 (xs ((3 + 5 * j) + 1)) (xs ((3 + 5 * j) + 2)) (xs ((3 + 5 * j) + 3)) (fun t => qm_ix (u 13 t 2)) u hR1 (qL_len hI.2)) Nat.one_pos rfl rfl k_LW_43 (qL_fit (by decide) (by decide)) rfl hl.1 rfl (Nat.le_of_ble_eq_true rfl) d_LW_law_363 (fun r2 u2 H locs hp2 hC => ?_)
        have hJ1 : qL_J y F u1 := by
          rw [hp1.2]
          split
          · rename_i q
            exact qL_code hn4 hn7 (qL_len hI.2) q.1 q.2 hI.2
          · exact hI.2
        have hR2 : qm_RM (qa_n y) u1 u2 := by
          have q := hp2.2.1
          rw [← hp1.2] at q
          exact q
        have hI2 : ∃ F2, F2 ≤ F + 4 ∧ qL_I y F2 u2 := ⟨F, by omega, qL_step (qm_eq_r u1) hR2 hp2.2.2 hJ1⟩
        refine lv_icmp_eq hx hb d_LW_law_366 rfl (fun _ => ?_) (fun h9 => absurd (hp1.1.trans hp2.1.symm) h9)
        obtain ⟨F2, hF2, hI2⟩ := hI2
        refine lv_iinc (v := nI (3 + 5 * (j + 1))) hx hb d_LW_law_736 hl (k := 0) rfl (by rw [show 3 + 5 * (j + 1) = 3 + 5 * j + 5 by omega]; exact nI_add (3 + 5 * j) 5) (by decide) rfl (fun ls hl => ?_)
        refine lv_goto hx hb d_LW_law_739 rfl ?_
        exact ih (j + 1) F2 u2 H locs ls (by omega) (by omega) (by omega) hC hI2 hl
      · refine lv_tableIn (off := 309) (tgt := 371) hx hb d_LW_law_62 (by rw [k62]; decide) (by rw [k62]; decide) (by rw [k62]; rfl) rfl ?_
        refine lv_aload_n hx hb d_LW_law_371 rfl (lv_at hl 2 rfl) ?_
        refine lv_aload_n hx hb d_LW_law_372 rfl (lv_at hl 1 rfl) ?_
        refine lv_iload_n hx hb d_LW_law_373 rfl (lv_at hl 0 rfl) ?_
        refine lv_iconst (v := 1) hx hb d_LW_law_374 (by decide) ?_
        refine lv_iadd hx hb d_LW_law_375 ?_
        refine qL_ld (j := ((3 + 5 * j) + 1)) hx hb hX hbl hbA hC.2 (qn_add rfl rfl) (by omega) hL d_LW_law_376 ?_
        refine qa_mV (k := 0) (i := 0) (As := [.int (xs ((3 + 5 * j) + 1))]) E hC (c_VF_clear l y u (xs ((3 + 5 * j) + 1))) Nat.one_pos rfl rfl k_LW_44 (qL_fit (by decide) (by decide)) rfl hl.1 rfl (Nat.le_of_ble_eq_true rfl) d_LW_law_377 (fun r1 u1 H locs hp1 hC => ?_)
        have hR1 : qm_RM (qa_n y) u u1 := qL_RM_c hI.1 (fun c9 h9 => by
          rw [hp1.2]
          split
          · rw [qa_up_kk (by omega), qa_up_kk (by omega)]
          · rfl)
        refine lv_aload_n hx hb d_LW_law_380 rfl (lv_at hl 3 rfl) ?_
        refine lv_aload_n hx hb d_LW_law_381 rfl (lv_at hl 1 rfl) ?_
        refine lv_iload_n hx hb d_LW_law_382 rfl (lv_at hl 0 rfl) ?_
        refine lv_iconst (v := 1) hx hb d_LW_law_383 (by decide) ?_
        refine lv_iadd hx hb d_LW_law_384 ?_
        refine qL_ld (j := ((3 + 5 * j) + 1)) hx hb hX hbl hbA hC.2 (qn_add rfl rfl) (by omega) hL d_LW_law_385 ?_
        refine qa_mV (k := 22) (i := 0) (As := [.int (xs ((3 + 5 * j) + 1))]) E hC (c_MD_clear l y u1 (xs ((3 + 5 * j) + 1)) u hR1) Nat.one_pos rfl rfl k_LW_48 (qL_fit (by decide) (by decide)) rfl hl.1 rfl (Nat.le_of_ble_eq_true rfl) d_LW_law_386 (fun r2 u2 H locs hp2 hC => ?_)
        have hJ1 : qL_J y F u1 := by
          rw [hp1.2]
          split
          · exact qL_clear hI.2
          · exact hI.2
        have hR2 : qm_RM (qa_n y) u1 u2 := by
          have q := hp2.2.1
          rw [← hp1.2] at q
          exact q
        have hI2 : ∃ F2, F2 ≤ F + 4 ∧ qL_I y F2 u2 := ⟨F, by omega, qL_step (qm_eq_r u1) hR2 hp2.2.2 hJ1⟩
        refine lv_icmp_eq hx hb d_LW_law_389 rfl (fun _ => ?_) (fun h9 => absurd (hp1.1.trans hp2.1.symm) h9)
        obtain ⟨F2, hF2, hI2⟩ := hI2
        refine lv_iinc (v := nI (3 + 5 * (j + 1))) hx hb d_LW_law_736 hl (k := 0) rfl (by rw [show 3 + 5 * (j + 1) = 3 + 5 * j + 5 by omega]; exact nI_add (3 + 5 * j) 5) (by decide) rfl (fun ls hl => ?_)
        refine lv_goto hx hb d_LW_law_739 rfl ?_
        exact ih (j + 1) F2 u2 H locs ls (by omega) (by omega) (by omega) hC hI2 hl
      · refine lv_tableIn (off := 332) (tgt := 394) hx hb d_LW_law_62 (by rw [k62]; decide) (by rw [k62]; decide) (by rw [k62]; rfl) rfl ?_
        refine lv_aload_n hx hb d_LW_law_394 rfl (lv_at hl 2 rfl) ?_
        refine lv_aload_n hx hb d_LW_law_395 rfl (lv_at hl 1 rfl) ?_
        refine lv_iload_n hx hb d_LW_law_396 rfl (lv_at hl 0 rfl) ?_
        refine lv_iconst (v := 1) hx hb d_LW_law_397 (by decide) ?_
        refine lv_iadd hx hb d_LW_law_398 ?_
        refine qL_ld (j := ((3 + 5 * j) + 1)) hx hb hX hbl hbA hC.2 (qn_add rfl rfl) (by omega) hL d_LW_law_399 ?_
        refine lv_aload_n hx hb d_LW_law_400 rfl (lv_at hl 1 rfl) ?_
        refine lv_iload_n hx hb d_LW_law_401 rfl (lv_at hl 0 rfl) ?_
        refine lv_iconst (v := 2) hx hb d_LW_law_402 (by decide) ?_
        refine lv_iadd hx hb d_LW_law_403 ?_
        refine qL_ld (j := ((3 + 5 * j) + 2)) hx hb hX hbl hbA hC.2 (qn_add rfl rfl) (by omega) hL d_LW_law_404 ?_
        refine lv_aload_n hx hb d_LW_law_405 rfl (lv_at hl 1 rfl) ?_
        refine lv_iload_n hx hb d_LW_law_406 rfl (lv_at hl 0 rfl) ?_
        refine lv_iconst (v := 3) hx hb d_LW_law_407 (by decide) ?_
        refine lv_iadd hx hb d_LW_law_408 ?_
        refine qL_ld (j := ((3 + 5 * j) + 3)) hx hb hX hbl hbA hC.2 (qn_add rfl rfl) (by omega) hL d_LW_law_409 ?_
        refine qa_mV (k := 0) (i := 0) (As := [.int (xs ((3 + 5 * j) + 1)), .int (xs ((3 + 5 * j) + 2)), .int (xs ((3 + 5 * j) + 3))]) E hC (c_VF_due l y u (xs ((3 + 5 * j) + 1)) (xs ((3 + 5 * j) + 2)) (xs ((3 + 5 * j) + 3))) Nat.one_pos rfl rfl k_LW_49 (qL_fit (by decide) (by decide)) rfl hl.1 rfl (Nat.le_of_ble_eq_true rfl) d_LW_law_410 (fun r1 u1 H locs hp1 hC => ?_)
        have hR1 : qm_RM (qa_n y) u u1 := qL_RM_c hI.1 (fun c9 h9 => by
          rw [hp1.2]
          split
          · rw [qa_up_kk (by omega), qa_up_kk (by omega)]
          · rfl)
        refine lv_aload_n hx hb d_LW_law_413 rfl (lv_at hl 3 rfl) ?_
        refine lv_aload_n hx hb d_LW_law_414 rfl (lv_at hl 1 rfl) ?_
        refine lv_iload_n hx hb d_LW_law_415 rfl (lv_at hl 0 rfl) ?_
        refine lv_iconst (v := 1) hx hb d_LW_law_416 (by decide) ?_
        refine lv_iadd hx hb d_LW_law_417 ?_
        refine qL_ld (j := ((3 + 5 * j) + 1)) hx hb hX hbl hbA hC.2 (qn_add rfl rfl) (by omega) hL d_LW_law_418 ?_
        refine lv_aload_n hx hb d_LW_law_419 rfl (lv_at hl 1 rfl) ?_
        refine lv_iload_n hx hb d_LW_law_420 rfl (lv_at hl 0 rfl) ?_
        refine lv_iconst (v := 2) hx hb d_LW_law_421 (by decide) ?_
        refine lv_iadd hx hb d_LW_law_422 ?_
        refine qL_ld (j := ((3 + 5 * j) + 2)) hx hb hX hbl hbA hC.2 (qn_add rfl rfl) (by omega) hL d_LW_law_423 ?_
        refine lv_aload_n hx hb d_LW_law_424 rfl (lv_at hl 1 rfl) ?_
        refine lv_iload_n hx hb d_LW_law_425 rfl (lv_at hl 0 rfl) ?_
        refine lv_iconst (v := 3) hx hb d_LW_law_426 (by decide) ?_
        refine lv_iadd hx hb d_LW_law_427 ?_
        refine qL_ld (j := ((3 + 5 * j) + 3)) hx hb hX hbl hbA hC.2 (qn_add rfl rfl) (by omega) hL d_LW_law_428 ?_
        refine qa_mV (k := 22) (i := 0) (As := [.int (xs ((3 + 5 * j) + 1)), .int (xs ((3 + 5 * j) + 2)), .int (xs ((3 + 5 * j) + 3))]) E hC (c_MD_due l y u1 (xs ((3 + 5 * j) + 1)) (xs ((3 + 5 * j) + 2)) (xs ((3 + 5 * j) + 3)) u hR1) Nat.one_pos rfl rfl k_LW_52 (qL_fit (by decide) (by decide)) rfl hl.1 rfl (Nat.le_of_ble_eq_true rfl) d_LW_law_429 (fun r2 u2 H locs hp2 hC => ?_)
        have hJ1 : qL_J y F u1 := by
          rw [hp1.2]
          split
          · exact qL_J_up (by omega) (qL_J_up (by omega) hI.2)
          · exact hI.2
        have hR2 : qm_RM (qa_n y) u1 u2 := by
          have q := hp2.2.1
          rw [← hp1.2] at q
          exact q
        have hI2 : ∃ F2, F2 ≤ F + 4 ∧ qL_I y F2 u2 := ⟨F, by omega, qL_step (qm_eq_r u1) hR2 hp2.2.2 hJ1⟩
        refine lv_icmp_eq hx hb d_LW_law_432 rfl (fun _ => ?_) (fun h9 => absurd (hp1.1.trans hp2.1.symm) h9)
        obtain ⟨F2, hF2, hI2⟩ := hI2
        refine lv_iinc (v := nI (3 + 5 * (j + 1))) hx hb d_LW_law_736 hl (k := 0) rfl (by rw [show 3 + 5 * (j + 1) = 3 + 5 * j + 5 by omega]; exact nI_add (3 + 5 * j) 5) (by decide) rfl (fun ls hl => ?_)
        refine lv_goto hx hb d_LW_law_739 rfl ?_
        exact ih (j + 1) F2 u2 H locs ls (by omega) (by omega) (by omega) hC hI2 hl
      · refine lv_tableIn (off := 375) (tgt := 437) hx hb d_LW_law_62 (by rw [k62]; decide) (by rw [k62]; decide) (by rw [k62]; rfl) rfl ?_
        refine lv_aload_n hx hb d_LW_law_437 rfl (lv_at hl 2 rfl) ?_
        refine lv_aload_n hx hb d_LW_law_438 rfl (lv_at hl 1 rfl) ?_
        refine lv_iload_n hx hb d_LW_law_439 rfl (lv_at hl 0 rfl) ?_
        refine lv_iconst (v := 1) hx hb d_LW_law_440 (by decide) ?_
        refine lv_iadd hx hb d_LW_law_441 ?_
        refine qL_ld (j := ((3 + 5 * j) + 1)) hx hb hX hbl hbA hC.2 (qn_add rfl rfl) (by omega) hL d_LW_law_442 ?_
        refine qa_mV (k := 0) (i := 0) (As := [.int (xs ((3 + 5 * j) + 1))]) E hC (c_VF_run l y u (xs ((3 + 5 * j) + 1)) hI.2.1 hI.2.2.1 hI.2.2.2.1) Nat.one_pos rfl rfl k_LW_53 (qL_fit (by decide) (by decide)) rfl hl.1 rfl (Nat.le_of_ble_eq_true rfl) d_LW_law_443 (fun r1 u1 H locs hp1 hC => ?_)
        have hR1 : qm_RM (qa_n y) u u1 := qL_RM_c hI.1 (fun c9 h9 => by
          rw [hp1.2 c9 (by omega) (by omega) (by omega) (by omega) (by omega) (by omega) (by omega)]
          split
          · exact qm_it_kk _ (by omega) (by omega) (by omega) (by omega) (by omega) (by omega)
          · rfl)
        refine lv_aload_n hx hb d_LW_law_446 rfl (lv_at hl 3 rfl) ?_
        refine lv_aload_n hx hb d_LW_law_447 rfl (lv_at hl 1 rfl) ?_
        refine lv_iload_n hx hb d_LW_law_448 rfl (lv_at hl 0 rfl) ?_
        refine lv_iconst (v := 1) hx hb d_LW_law_449 (by decide) ?_
        refine lv_iadd hx hb d_LW_law_450 ?_
        refine qL_ld (j := ((3 + 5 * j) + 1)) hx hb hX hbl hbA hC.2 (qn_add rfl rfl) (by omega) hL d_LW_law_451 ?_
        refine qa_mV (k := 22) (i := 0) (As := [.int (xs ((3 + 5 * j) + 1))]) E hC (c_MD_run l y u1 (xs ((3 + 5 * j) + 1)) u hR1 F (by omega) hI.2.2.2.2.1 hI.2.1 hI.2.2.1) Nat.one_pos rfl rfl k_LW_56 (qL_fit (by decide) (by decide)) rfl hl.1 rfl (Nat.le_of_ble_eq_true rfl) d_LW_law_452 (fun r2 u2 H locs hp2 hC => ?_)
        have hI2 : ∃ F2, F2 ≤ F + 4 ∧ qL_I y F2 u2 := by
          have e2 := hp1.2
          have e3 := hp2.2.1
          by_cases g : qm_wi (xs ((3 + 5 * j) + 1)) 1 4 = true
          · obtain ⟨k9, k1, k4, ez⟩ := qm_wi_14 g
            have ek : qm_ix (xs ((3 + 5 * j) + 1)) = k9 := by rw [ez, qm_ix_n (by omega)]
            rw [if_pos g, ek] at e2 e3
            exact ⟨F + k9, by omega, qL_step e2 e3 hp2.2.2 (qL_run E.2.1 (by omega) hI.2)⟩
          · rw [if_neg g] at e2 e3
            exact ⟨F, by omega, qL_step e2 e3 hp2.2.2 hI.2⟩
        refine lv_icmp_eq hx hb d_LW_law_455 rfl (fun _ => ?_) (fun h9 => absurd (hp1.1.trans hp2.1.symm) h9)
        obtain ⟨F2, hF2, hI2⟩ := hI2
        refine lv_iinc (v := nI (3 + 5 * (j + 1))) hx hb d_LW_law_736 hl (k := 0) rfl (by rw [show 3 + 5 * (j + 1) = 3 + 5 * j + 5 by omega]; exact nI_add (3 + 5 * j) 5) (by decide) rfl (fun ls hl => ?_)
        refine lv_goto hx hb d_LW_law_739 rfl ?_
        exact ih (j + 1) F2 u2 H locs ls (by omega) (by omega) (by omega) hC hI2 hl
      · refine lv_tableIn (off := 398) (tgt := 460) hx hb d_LW_law_62 (by rw [k62]; decide) (by rw [k62]; decide) (by rw [k62]; rfl) rfl ?_
        refine lv_aload_n hx hb d_LW_law_460 rfl (lv_at hl 2 rfl) ?_
        refine qa_pV (k := 0) (i := 0) (As := []) E hC (c_VF_frame l y u ) Nat.one_pos rfl rfl k_LW_57 (qL_fit (by decide) (by decide)) rfl hl.1 rfl (Nat.le_of_ble_eq_true rfl) d_LW_law_461 ?_
        refine lv_aload_n hx hb d_LW_law_464 rfl (lv_at hl 3 rfl) ?_
        refine qa_pV (k := 22) (i := 0) (As := []) E hC (c_MD_frame l y u  u hI.1) Nat.one_pos rfl rfl k_LW_61 (qL_fit (by decide) (by decide)) rfl hl.1 rfl (Nat.le_of_ble_eq_true rfl) d_LW_law_465 ?_
        refine lv_icmp_eq hx hb d_LW_law_468 rfl (fun _ => ?_) (fun h9 => absurd rfl h9)
        refine lv_iinc (v := nI (3 + 5 * (j + 1))) hx hb d_LW_law_736 hl (k := 0) rfl (by rw [show 3 + 5 * (j + 1) = 3 + 5 * j + 5 by omega]; exact nI_add (3 + 5 * j) 5) (by decide) rfl (fun ls hl => ?_)
        refine lv_goto hx hb d_LW_law_739 rfl ?_
        exact ih (j + 1) F u H locs ls (by omega) (by omega) (by omega) hC hI hl
      · refine lv_tableIn (off := 411) (tgt := 473) hx hb d_LW_law_62 (by rw [k62]; decide) (by rw [k62]; decide) (by rw [k62]; rfl) rfl ?_
        refine lv_aload_n hx hb d_LW_law_473 rfl (lv_at hl 2 rfl) ?_
        refine lv_aload_n hx hb d_LW_law_474 rfl (lv_at hl 1 rfl) ?_
        refine lv_iload_n hx hb d_LW_law_475 rfl (lv_at hl 0 rfl) ?_
        refine lv_iconst (v := 1) hx hb d_LW_law_476 (by decide) ?_
        refine lv_iadd hx hb d_LW_law_477 ?_
        refine qL_ld (j := ((3 + 5 * j) + 1)) hx hb hX hbl hbA hC.2 (qn_add rfl rfl) (by omega) hL d_LW_law_478 ?_
        refine qa_pV (k := 0) (i := 0) (As := [.int (xs ((3 + 5 * j) + 1))]) E hC (c_VF_reading l y u (xs ((3 + 5 * j) + 1))) Nat.one_pos rfl rfl k_LW_62 (qL_fit (by decide) (by decide)) rfl hl.1 rfl (Nat.le_of_ble_eq_true rfl) d_LW_law_479 ?_
        refine lv_aload_n hx hb d_LW_law_482 rfl (lv_at hl 3 rfl) ?_
        refine lv_aload_n hx hb d_LW_law_483 rfl (lv_at hl 1 rfl) ?_
        refine lv_iload_n hx hb d_LW_law_484 rfl (lv_at hl 0 rfl) ?_
        refine lv_iconst (v := 1) hx hb d_LW_law_485 (by decide) ?_
        refine lv_iadd hx hb d_LW_law_486 ?_
        refine qL_ld (j := ((3 + 5 * j) + 1)) hx hb hX hbl hbA hC.2 (qn_add rfl rfl) (by omega) hL d_LW_law_487 ?_
        refine qa_pV (k := 22) (i := 0) (As := [.int (xs ((3 + 5 * j) + 1))]) E hC (c_MD_reading l y u (xs ((3 + 5 * j) + 1)) u hI.1) Nat.one_pos rfl rfl k_LW_65 (qL_fit (by decide) (by decide)) rfl hl.1 rfl (Nat.le_of_ble_eq_true rfl) d_LW_law_488 ?_
        refine lv_icmp_eq hx hb d_LW_law_491 rfl (fun _ => ?_) (fun h9 => absurd rfl h9)
        refine lv_iinc (v := nI (3 + 5 * (j + 1))) hx hb d_LW_law_736 hl (k := 0) rfl (by rw [show 3 + 5 * (j + 1) = 3 + 5 * j + 5 by omega]; exact nI_add (3 + 5 * j) 5) (by decide) rfl (fun ls hl => ?_)
        refine lv_goto hx hb d_LW_law_739 rfl ?_
        exact ih (j + 1) F u H locs ls (by omega) (by omega) (by omega) hC hI hl
      · refine lv_tableIn (off := 434) (tgt := 496) hx hb d_LW_law_62 (by rw [k62]; decide) (by rw [k62]; decide) (by rw [k62]; rfl) rfl ?_
        refine lv_aload_n hx hb d_LW_law_496 rfl (lv_at hl 2 rfl) ?_
        refine lv_aload_n hx hb d_LW_law_497 rfl (lv_at hl 1 rfl) ?_
        refine lv_iload_n hx hb d_LW_law_498 rfl (lv_at hl 0 rfl) ?_
        refine lv_iconst (v := 1) hx hb d_LW_law_499 (by decide) ?_
        refine lv_iadd hx hb d_LW_law_500 ?_
        refine qL_ld (j := ((3 + 5 * j) + 1)) hx hb hX hbl hbA hC.2 (qn_add rfl rfl) (by omega) hL d_LW_law_501 ?_
        refine qa_pV (k := 0) (i := 0) (As := [.int (xs ((3 + 5 * j) + 1))]) E hC (c_VF_correction l y u (xs ((3 + 5 * j) + 1))) Nat.one_pos rfl rfl k_LW_66 (qL_fit (by decide) (by decide)) rfl hl.1 rfl (Nat.le_of_ble_eq_true rfl) d_LW_law_502 ?_
        refine lv_aload_n hx hb d_LW_law_505 rfl (lv_at hl 3 rfl) ?_
        refine lv_aload_n hx hb d_LW_law_506 rfl (lv_at hl 1 rfl) ?_
        refine lv_iload_n hx hb d_LW_law_507 rfl (lv_at hl 0 rfl) ?_
        refine lv_iconst (v := 1) hx hb d_LW_law_508 (by decide) ?_
        refine lv_iadd hx hb d_LW_law_509 ?_
        refine qL_ld (j := ((3 + 5 * j) + 1)) hx hb hX hbl hbA hC.2 (qn_add rfl rfl) (by omega) hL d_LW_law_510 ?_
        refine qa_pV (k := 22) (i := 0) (As := [.int (xs ((3 + 5 * j) + 1))]) E hC (c_MD_correction l y u (xs ((3 + 5 * j) + 1)) u hI.1) Nat.one_pos rfl rfl k_LW_69 (qL_fit (by decide) (by decide)) rfl hl.1 rfl (Nat.le_of_ble_eq_true rfl) d_LW_law_511 ?_
        refine lv_icmp_eq hx hb d_LW_law_514 rfl (fun _ => ?_) (fun h9 => absurd rfl h9)
        refine lv_iinc (v := nI (3 + 5 * (j + 1))) hx hb d_LW_law_736 hl (k := 0) rfl (by rw [show 3 + 5 * (j + 1) = 3 + 5 * j + 5 by omega]; exact nI_add (3 + 5 * j) 5) (by decide) rfl (fun ls hl => ?_)
        refine lv_goto hx hb d_LW_law_739 rfl ?_
        exact ih (j + 1) F u H locs ls (by omega) (by omega) (by omega) hC hI hl
      · refine lv_tableIn (off := 457) (tgt := 519) hx hb d_LW_law_62 (by rw [k62]; decide) (by rw [k62]; decide) (by rw [k62]; rfl) rfl ?_
        refine lv_aload_n hx hb d_LW_law_519 rfl (lv_at hl 2 rfl) ?_
        refine lv_aload_n hx hb d_LW_law_520 rfl (lv_at hl 1 rfl) ?_
        refine lv_iload_n hx hb d_LW_law_521 rfl (lv_at hl 0 rfl) ?_
        refine lv_iconst (v := 1) hx hb d_LW_law_522 (by decide) ?_
        refine lv_iadd hx hb d_LW_law_523 ?_
        refine qL_ld (j := ((3 + 5 * j) + 1)) hx hb hX hbl hbA hC.2 (qn_add rfl rfl) (by omega) hL d_LW_law_524 ?_
        refine lv_aload_n hx hb d_LW_law_525 rfl (lv_at hl 1 rfl) ?_
        refine lv_iload_n hx hb d_LW_law_526 rfl (lv_at hl 0 rfl) ?_
        refine lv_iconst (v := 2) hx hb d_LW_law_527 (by decide) ?_
        refine lv_iadd hx hb d_LW_law_528 ?_
        refine qL_ld (j := ((3 + 5 * j) + 2)) hx hb hX hbl hbA hC.2 (qn_add rfl rfl) (by omega) hL d_LW_law_529 ?_
        refine qa_pV (k := 0) (i := 0) (As := [.int (xs ((3 + 5 * j) + 1)), .int (xs ((3 + 5 * j) + 2))]) E hC (c_VF_input l y u (xs ((3 + 5 * j) + 1)) (xs ((3 + 5 * j) + 2))) Nat.one_pos rfl rfl k_LW_70 (qL_fit (by decide) (by decide)) rfl hl.1 rfl (Nat.le_of_ble_eq_true rfl) d_LW_law_530 ?_
        refine lv_aload_n hx hb d_LW_law_533 rfl (lv_at hl 3 rfl) ?_
        refine lv_aload_n hx hb d_LW_law_534 rfl (lv_at hl 1 rfl) ?_
        refine lv_iload_n hx hb d_LW_law_535 rfl (lv_at hl 0 rfl) ?_
        refine lv_iconst (v := 1) hx hb d_LW_law_536 (by decide) ?_
        refine lv_iadd hx hb d_LW_law_537 ?_
        refine qL_ld (j := ((3 + 5 * j) + 1)) hx hb hX hbl hbA hC.2 (qn_add rfl rfl) (by omega) hL d_LW_law_538 ?_
        refine lv_aload_n hx hb d_LW_law_539 rfl (lv_at hl 1 rfl) ?_
        refine lv_iload_n hx hb d_LW_law_540 rfl (lv_at hl 0 rfl) ?_
        refine lv_iconst (v := 2) hx hb d_LW_law_541 (by decide) ?_
        refine lv_iadd hx hb d_LW_law_542 ?_
        refine qL_ld (j := ((3 + 5 * j) + 2)) hx hb hX hbl hbA hC.2 (qn_add rfl rfl) (by omega) hL d_LW_law_543 ?_
        refine qa_pV (k := 22) (i := 0) (As := [.int (xs ((3 + 5 * j) + 1)), .int (xs ((3 + 5 * j) + 2))]) E hC (c_MD_input l y u (xs ((3 + 5 * j) + 1)) (xs ((3 + 5 * j) + 2)) u hI.1) Nat.one_pos rfl rfl k_LW_74 (qL_fit (by decide) (by decide)) rfl hl.1 rfl (Nat.le_of_ble_eq_true rfl) d_LW_law_544 ?_
        refine lv_icmp_eq hx hb d_LW_law_547 rfl (fun _ => ?_) (fun h9 => absurd rfl h9)
        refine lv_iinc (v := nI (3 + 5 * (j + 1))) hx hb d_LW_law_736 hl (k := 0) rfl (by rw [show 3 + 5 * (j + 1) = 3 + 5 * j + 5 by omega]; exact nI_add (3 + 5 * j) 5) (by decide) rfl (fun ls hl => ?_)
        refine lv_goto hx hb d_LW_law_739 rfl ?_
        exact ih (j + 1) F u H locs ls (by omega) (by omega) (by omega) hC hI hl
      · refine lv_tableIn (off := 490) (tgt := 552) hx hb d_LW_law_62 (by rw [k62]; decide) (by rw [k62]; decide) (by rw [k62]; rfl) rfl ?_
        refine lv_aload_n hx hb d_LW_law_552 rfl (lv_at hl 2 rfl) ?_
        refine lv_aload_n hx hb d_LW_law_553 rfl (lv_at hl 1 rfl) ?_
        refine lv_iload_n hx hb d_LW_law_554 rfl (lv_at hl 0 rfl) ?_
        refine lv_iconst (v := 1) hx hb d_LW_law_555 (by decide) ?_
        refine lv_iadd hx hb d_LW_law_556 ?_
        refine qL_ld (j := ((3 + 5 * j) + 1)) hx hb hX hbl hbA hC.2 (qn_add rfl rfl) (by omega) hL d_LW_law_557 ?_
        refine lv_aload_n hx hb d_LW_law_558 rfl (lv_at hl 1 rfl) ?_
        refine lv_iload_n hx hb d_LW_law_559 rfl (lv_at hl 0 rfl) ?_
        refine lv_iconst (v := 2) hx hb d_LW_law_560 (by decide) ?_
        refine lv_iadd hx hb d_LW_law_561 ?_
        refine qL_ld (j := ((3 + 5 * j) + 2)) hx hb hX hbl hbA hC.2 (qn_add rfl rfl) (by omega) hL d_LW_law_562 ?_
        refine qa_pV (k := 0) (i := 0) (As := [.int (xs ((3 + 5 * j) + 1)), .int (xs ((3 + 5 * j) + 2))]) E hC (c_VF_charge l y u (xs ((3 + 5 * j) + 1)) (xs ((3 + 5 * j) + 2))) Nat.one_pos rfl rfl k_LW_75 (qL_fit (by decide) (by decide)) rfl hl.1 rfl (Nat.le_of_ble_eq_true rfl) d_LW_law_563 ?_
        refine lv_aload_n hx hb d_LW_law_566 rfl (lv_at hl 3 rfl) ?_
        refine lv_aload_n hx hb d_LW_law_567 rfl (lv_at hl 1 rfl) ?_
        refine lv_iload_n hx hb d_LW_law_568 rfl (lv_at hl 0 rfl) ?_
        refine lv_iconst (v := 1) hx hb d_LW_law_569 (by decide) ?_
        refine lv_iadd hx hb d_LW_law_570 ?_
        refine qL_ld (j := ((3 + 5 * j) + 1)) hx hb hX hbl hbA hC.2 (qn_add rfl rfl) (by omega) hL d_LW_law_571 ?_
        refine lv_aload_n hx hb d_LW_law_572 rfl (lv_at hl 1 rfl) ?_
        refine lv_iload_n hx hb d_LW_law_573 rfl (lv_at hl 0 rfl) ?_
        refine lv_iconst (v := 2) hx hb d_LW_law_574 (by decide) ?_
        refine lv_iadd hx hb d_LW_law_575 ?_
        refine qL_ld (j := ((3 + 5 * j) + 2)) hx hb hX hbl hbA hC.2 (qn_add rfl rfl) (by omega) hL d_LW_law_576 ?_
        refine qa_pV (k := 22) (i := 0) (As := [.int (xs ((3 + 5 * j) + 1)), .int (xs ((3 + 5 * j) + 2))]) E hC (c_MD_charge l y u (xs ((3 + 5 * j) + 1)) (xs ((3 + 5 * j) + 2)) u hI.1) Nat.one_pos rfl rfl k_LW_78 (qL_fit (by decide) (by decide)) rfl hl.1 rfl (Nat.le_of_ble_eq_true rfl) d_LW_law_577 ?_
        refine lv_icmp_eq hx hb d_LW_law_580 rfl (fun _ => ?_) (fun h9 => absurd rfl h9)
        refine lv_iinc (v := nI (3 + 5 * (j + 1))) hx hb d_LW_law_736 hl (k := 0) rfl (by rw [show 3 + 5 * (j + 1) = 3 + 5 * j + 5 by omega]; exact nI_add (3 + 5 * j) 5) (by decide) rfl (fun ls hl => ?_)
        refine lv_goto hx hb d_LW_law_739 rfl ?_
        exact ih (j + 1) F u H locs ls (by omega) (by omega) (by omega) hC hI hl
      · refine lv_tableIn (off := 523) (tgt := 585) hx hb d_LW_law_62 (by rw [k62]; decide) (by rw [k62]; decide) (by rw [k62]; rfl) rfl ?_
        refine lv_aload_n hx hb d_LW_law_585 rfl (lv_at hl 2 rfl) ?_
        refine lv_aload_n hx hb d_LW_law_586 rfl (lv_at hl 1 rfl) ?_
        refine lv_iload_n hx hb d_LW_law_587 rfl (lv_at hl 0 rfl) ?_
        refine lv_iconst (v := 1) hx hb d_LW_law_588 (by decide) ?_
        refine lv_iadd hx hb d_LW_law_589 ?_
        refine qL_ld (j := ((3 + 5 * j) + 1)) hx hb hX hbl hbA hC.2 (qn_add rfl rfl) (by omega) hL d_LW_law_590 ?_
        refine lv_aload_n hx hb d_LW_law_591 rfl (lv_at hl 1 rfl) ?_
        refine lv_iload_n hx hb d_LW_law_592 rfl (lv_at hl 0 rfl) ?_
        refine lv_iconst (v := 2) hx hb d_LW_law_593 (by decide) ?_
        refine lv_iadd hx hb d_LW_law_594 ?_
        refine qL_ld (j := ((3 + 5 * j) + 2)) hx hb hX hbl hbA hC.2 (qn_add rfl rfl) (by omega) hL d_LW_law_595 ?_
        refine qa_pV (k := 0) (i := 0) (As := [.int (xs ((3 + 5 * j) + 1)), .int (xs ((3 + 5 * j) + 2))]) E hC (c_VF_word l y u (xs ((3 + 5 * j) + 1)) (xs ((3 + 5 * j) + 2))) Nat.one_pos rfl rfl k_LW_79 (qL_fit (by decide) (by decide)) rfl hl.1 rfl (Nat.le_of_ble_eq_true rfl) d_LW_law_596 ?_
        refine lv_aload_n hx hb d_LW_law_599 rfl (lv_at hl 3 rfl) ?_
        refine lv_aload_n hx hb d_LW_law_600 rfl (lv_at hl 1 rfl) ?_
        refine lv_iload_n hx hb d_LW_law_601 rfl (lv_at hl 0 rfl) ?_
        refine lv_iconst (v := 1) hx hb d_LW_law_602 (by decide) ?_
        refine lv_iadd hx hb d_LW_law_603 ?_
        refine qL_ld (j := ((3 + 5 * j) + 1)) hx hb hX hbl hbA hC.2 (qn_add rfl rfl) (by omega) hL d_LW_law_604 ?_
        refine lv_aload_n hx hb d_LW_law_605 rfl (lv_at hl 1 rfl) ?_
        refine lv_iload_n hx hb d_LW_law_606 rfl (lv_at hl 0 rfl) ?_
        refine lv_iconst (v := 2) hx hb d_LW_law_607 (by decide) ?_
        refine lv_iadd hx hb d_LW_law_608 ?_
        refine qL_ld (j := ((3 + 5 * j) + 2)) hx hb hX hbl hbA hC.2 (qn_add rfl rfl) (by omega) hL d_LW_law_609 ?_
        refine qa_pV (k := 22) (i := 0) (As := [.int (xs ((3 + 5 * j) + 1)), .int (xs ((3 + 5 * j) + 2))]) E hC (c_MD_word l y u (xs ((3 + 5 * j) + 1)) (xs ((3 + 5 * j) + 2)) u hI.1) Nat.one_pos rfl rfl k_LW_82 (qL_fit (by decide) (by decide)) rfl hl.1 rfl (Nat.le_of_ble_eq_true rfl) d_LW_law_610 ?_
        refine lv_icmp_eq hx hb d_LW_law_613 rfl (fun _ => ?_) (fun h9 => absurd rfl h9)
        refine lv_iinc (v := nI (3 + 5 * (j + 1))) hx hb d_LW_law_736 hl (k := 0) rfl (by rw [show 3 + 5 * (j + 1) = 3 + 5 * j + 5 by omega]; exact nI_add (3 + 5 * j) 5) (by decide) rfl (fun ls hl => ?_)
        refine lv_goto hx hb d_LW_law_739 rfl ?_
        exact ih (j + 1) F u H locs ls (by omega) (by omega) (by omega) hC hI hl
      · refine lv_tableIn (off := 556) (tgt := 618) hx hb d_LW_law_62 (by rw [k62]; decide) (by rw [k62]; decide) (by rw [k62]; rfl) rfl ?_
        refine lv_aload_n hx hb d_LW_law_618 rfl (lv_at hl 2 rfl) ?_
        refine lv_aload_n hx hb d_LW_law_619 rfl (lv_at hl 1 rfl) ?_
        refine lv_iload_n hx hb d_LW_law_620 rfl (lv_at hl 0 rfl) ?_
        refine lv_iconst (v := 1) hx hb d_LW_law_621 (by decide) ?_
        refine lv_iadd hx hb d_LW_law_622 ?_
        refine qL_ld (j := ((3 + 5 * j) + 1)) hx hb hX hbl hbA hC.2 (qn_add rfl rfl) (by omega) hL d_LW_law_623 ?_
        refine qa_pV (k := 0) (i := 0) (As := [.int (xs ((3 + 5 * j) + 1))]) E hC (c_VF_members l y u (xs ((3 + 5 * j) + 1))) Nat.one_pos rfl rfl k_LW_83 (qL_fit (by decide) (by decide)) rfl hl.1 rfl (Nat.le_of_ble_eq_true rfl) d_LW_law_624 ?_
        refine lv_aload_n hx hb d_LW_law_627 rfl (lv_at hl 3 rfl) ?_
        refine lv_aload_n hx hb d_LW_law_628 rfl (lv_at hl 1 rfl) ?_
        refine lv_iload_n hx hb d_LW_law_629 rfl (lv_at hl 0 rfl) ?_
        refine lv_iconst (v := 1) hx hb d_LW_law_630 (by decide) ?_
        refine lv_iadd hx hb d_LW_law_631 ?_
        refine qL_ld (j := ((3 + 5 * j) + 1)) hx hb hX hbl hbA hC.2 (qn_add rfl rfl) (by omega) hL d_LW_law_632 ?_
        refine qa_pV (k := 22) (i := 0) (As := [.int (xs ((3 + 5 * j) + 1))]) E hC (c_MD_members l y u (xs ((3 + 5 * j) + 1)) u hI.1) Nat.one_pos rfl rfl k_LW_86 (qL_fit (by decide) (by decide)) rfl hl.1 rfl (Nat.le_of_ble_eq_true rfl) d_LW_law_633 ?_
        refine lv_icmp_eq hx hb d_LW_law_636 rfl (fun _ => ?_) (fun h9 => absurd rfl h9)
        refine lv_iinc (v := nI (3 + 5 * (j + 1))) hx hb d_LW_law_736 hl (k := 0) rfl (by rw [show 3 + 5 * (j + 1) = 3 + 5 * j + 5 by omega]; exact nI_add (3 + 5 * j) 5) (by decide) rfl (fun ls hl => ?_)
        refine lv_goto hx hb d_LW_law_739 rfl ?_
        exact ih (j + 1) F u H locs ls (by omega) (by omega) (by omega) hC hI hl
      · refine lv_tableIn (off := 579) (tgt := 641) hx hb d_LW_law_62 (by rw [k62]; decide) (by rw [k62]; decide) (by rw [k62]; rfl) rfl ?_
        refine lv_aload_n hx hb d_LW_law_641 rfl (lv_at hl 2 rfl) ?_
        refine lv_aload_n hx hb d_LW_law_642 rfl (lv_at hl 1 rfl) ?_
        refine lv_iload_n hx hb d_LW_law_643 rfl (lv_at hl 0 rfl) ?_
        refine lv_iconst (v := 1) hx hb d_LW_law_644 (by decide) ?_
        refine lv_iadd hx hb d_LW_law_645 ?_
        refine qL_ld (j := ((3 + 5 * j) + 1)) hx hb hX hbl hbA hC.2 (qn_add rfl rfl) (by omega) hL d_LW_law_646 ?_
        refine qa_pV (k := 0) (i := 0) (As := [.int (xs ((3 + 5 * j) + 1))]) E hC (c_VF_bears l y u (xs ((3 + 5 * j) + 1))) Nat.one_pos rfl rfl k_LW_87 (qL_fit (by decide) (by decide)) rfl hl.1 rfl (Nat.le_of_ble_eq_true rfl) d_LW_law_647 ?_
        refine lv_aload_n hx hb d_LW_law_650 rfl (lv_at hl 3 rfl) ?_
        refine lv_aload_n hx hb d_LW_law_651 rfl (lv_at hl 1 rfl) ?_
        refine lv_iload_n hx hb d_LW_law_652 rfl (lv_at hl 0 rfl) ?_
        refine lv_iconst (v := 1) hx hb d_LW_law_653 (by decide) ?_
        refine lv_iadd hx hb d_LW_law_654 ?_
        refine qL_ld (j := ((3 + 5 * j) + 1)) hx hb hX hbl hbA hC.2 (qn_add rfl rfl) (by omega) hL d_LW_law_655 ?_
        refine qa_pV (k := 22) (i := 0) (As := [.int (xs ((3 + 5 * j) + 1))]) E hC (c_MD_bears l y u (xs ((3 + 5 * j) + 1)) (qL_mk hI)) Nat.one_pos rfl rfl k_LW_90 (qL_fit (by decide) (by decide)) rfl hl.1 rfl (Nat.le_of_ble_eq_true rfl) d_LW_law_656 ?_
        refine lv_icmp_eq hx hb d_LW_law_659 rfl (fun _ => ?_) (fun h9 => absurd (qL_bear hI hn4 hn7) h9)
        refine lv_iinc (v := nI (3 + 5 * (j + 1))) hx hb d_LW_law_736 hl (k := 0) rfl (by rw [show 3 + 5 * (j + 1) = 3 + 5 * j + 5 by omega]; exact nI_add (3 + 5 * j) 5) (by decide) rfl (fun ls hl => ?_)
        refine lv_goto hx hb d_LW_law_739 rfl ?_
        exact ih (j + 1) F u H locs ls (by omega) (by omega) (by omega) hC hI hl
      · refine lv_tableIn (off := 602) (tgt := 664) hx hb d_LW_law_62 (by rw [k62]; decide) (by rw [k62]; decide) (by rw [k62]; rfl) rfl ?_
        refine lv_aload_n hx hb d_LW_law_664 rfl (lv_at hl 2 rfl) ?_
        refine lv_aload_n hx hb d_LW_law_665 rfl (lv_at hl 1 rfl) ?_
        refine lv_iload_n hx hb d_LW_law_666 rfl (lv_at hl 0 rfl) ?_
        refine lv_iconst (v := 1) hx hb d_LW_law_667 (by decide) ?_
        refine lv_iadd hx hb d_LW_law_668 ?_
        refine qL_ld (j := ((3 + 5 * j) + 1)) hx hb hX hbl hbA hC.2 (qn_add rfl rfl) (by omega) hL d_LW_law_669 ?_
        refine qa_pV (k := 0) (i := 0) (As := [.int (xs ((3 + 5 * j) + 1))]) E hC (c_VF_accused l y u (xs ((3 + 5 * j) + 1))) Nat.one_pos rfl rfl k_LW_91 (qL_fit (by decide) (by decide)) rfl hl.1 rfl (Nat.le_of_ble_eq_true rfl) d_LW_law_670 ?_
        refine lv_aload_n hx hb d_LW_law_673 rfl (lv_at hl 3 rfl) ?_
        refine lv_aload_n hx hb d_LW_law_674 rfl (lv_at hl 1 rfl) ?_
        refine lv_iload_n hx hb d_LW_law_675 rfl (lv_at hl 0 rfl) ?_
        refine lv_iconst (v := 1) hx hb d_LW_law_676 (by decide) ?_
        refine lv_iadd hx hb d_LW_law_677 ?_
        refine qL_ld (j := ((3 + 5 * j) + 1)) hx hb hX hbl hbA hC.2 (qn_add rfl rfl) (by omega) hL d_LW_law_678 ?_
        refine qa_pV (k := 22) (i := 0) (As := [.int (xs ((3 + 5 * j) + 1))]) E hC (c_MD_accused l y u (xs ((3 + 5 * j) + 1)) u hI.1) Nat.one_pos rfl rfl k_LW_94 (qL_fit (by decide) (by decide)) rfl hl.1 rfl (Nat.le_of_ble_eq_true rfl) d_LW_law_679 ?_
        refine lv_icmp_eq hx hb d_LW_law_682 rfl (fun _ => ?_) (fun h9 => absurd rfl h9)
        refine lv_iinc (v := nI (3 + 5 * (j + 1))) hx hb d_LW_law_736 hl (k := 0) rfl (by rw [show 3 + 5 * (j + 1) = 3 + 5 * j + 5 by omega]; exact nI_add (3 + 5 * j) 5) (by decide) rfl (fun ls hl => ?_)
        refine lv_goto hx hb d_LW_law_739 rfl ?_
        exact ih (j + 1) F u H locs ls (by omega) (by omega) (by omega) hC hI hl
      · refine lv_tableIn (off := 625) (tgt := 687) hx hb d_LW_law_62 (by rw [k62]; decide) (by rw [k62]; decide) (by rw [k62]; rfl) rfl ?_
        refine lv_aload_n hx hb d_LW_law_687 rfl (lv_at hl 2 rfl) ?_
        refine qa_pV (k := 0) (i := 0) (As := []) E hC (c_VF_spread l y u ) Nat.one_pos rfl rfl k_LW_95 (qL_fit (by decide) (by decide)) rfl hl.1 rfl (Nat.le_of_ble_eq_true rfl) d_LW_law_688 ?_
        refine lv_aload_n hx hb d_LW_law_691 rfl (lv_at hl 3 rfl) ?_
        refine qa_pV (k := 22) (i := 0) (As := []) E hC (c_MD_spread l y u u hI.1 (qL_J_mono hI (by omega))) Nat.one_pos rfl rfl k_LW_98 (qL_fit (by decide) (by decide)) rfl hl.1 rfl (Nat.le_of_ble_eq_true rfl) d_LW_law_692 ?_
        refine lv_icmp_eq hx hb d_LW_law_695 rfl (fun _ => ?_) (fun h9 => absurd rfl h9)
        refine lv_iinc (v := nI (3 + 5 * (j + 1))) hx hb d_LW_law_736 hl (k := 0) rfl (by rw [show 3 + 5 * (j + 1) = 3 + 5 * j + 5 by omega]; exact nI_add (3 + 5 * j) 5) (by decide) rfl (fun ls hl => ?_)
        refine lv_goto hx hb d_LW_law_739 rfl ?_
        exact ih (j + 1) F u H locs ls (by omega) (by omega) (by omega) hC hI hl
      · refine lv_tableIn (off := 638) (tgt := 700) hx hb d_LW_law_62 (by rw [k62]; decide) (by rw [k62]; decide) (by rw [k62]; rfl) rfl ?_
        refine lv_aload_n hx hb d_LW_law_700 rfl (lv_at hl 2 rfl) ?_
        refine qa_pV (k := 0) (i := 0) (As := []) E hC (c_VF_alike l y u ) Nat.one_pos rfl rfl k_LW_99 (qL_fit (by decide) (by decide)) rfl hl.1 rfl (Nat.le_of_ble_eq_true rfl) d_LW_law_701 ?_
        refine lv_aload_n hx hb d_LW_law_704 rfl (lv_at hl 3 rfl) ?_
        refine qa_pV (k := 22) (i := 0) (As := []) E hC (c_MD_alike l y u  u hI.1) Nat.one_pos rfl rfl k_LW_103 (qL_fit (by decide) (by decide)) rfl hl.1 rfl (Nat.le_of_ble_eq_true rfl) d_LW_law_705 ?_
        refine lv_icmp_eq hx hb d_LW_law_708 rfl (fun _ => ?_) (fun h9 => absurd rfl h9)
        refine lv_iinc (v := nI (3 + 5 * (j + 1))) hx hb d_LW_law_736 hl (k := 0) rfl (by rw [show 3 + 5 * (j + 1) = 3 + 5 * j + 5 by omega]; exact nI_add (3 + 5 * j) 5) (by decide) rfl (fun ls hl => ?_)
        refine lv_goto hx hb d_LW_law_739 rfl ?_
        exact ih (j + 1) F u H locs ls (by omega) (by omega) (by omega) hC hI hl
      · refine lv_tableIn (off := 651) (tgt := 713) hx hb d_LW_law_62 (by rw [k62]; decide) (by rw [k62]; decide) (by rw [k62]; rfl) rfl ?_
        refine lv_aload_n hx hb d_LW_law_713 rfl (lv_at hl 2 rfl) ?_
        refine lv_aload_n hx hb d_LW_law_714 rfl (lv_at hl 1 rfl) ?_
        refine lv_iload_n hx hb d_LW_law_715 rfl (lv_at hl 0 rfl) ?_
        refine lv_iconst (v := 1) hx hb d_LW_law_716 (by decide) ?_
        refine lv_iadd hx hb d_LW_law_717 ?_
        refine qL_ld (j := ((3 + 5 * j) + 1)) hx hb hX hbl hbA hC.2 (qn_add rfl rfl) (by omega) hL d_LW_law_718 ?_
        refine qa_pV (k := 0) (i := 0) (As := [.int (xs ((3 + 5 * j) + 1))]) E hC (c_VF_solo l y u (xs ((3 + 5 * j) + 1))) Nat.one_pos rfl rfl k_LW_104 (qL_fit (by decide) (by decide)) rfl hl.1 rfl (Nat.le_of_ble_eq_true rfl) d_LW_law_719 ?_
        refine lv_aload_n hx hb d_LW_law_722 rfl (lv_at hl 3 rfl) ?_
        refine lv_aload_n hx hb d_LW_law_723 rfl (lv_at hl 1 rfl) ?_
        refine lv_iload_n hx hb d_LW_law_724 rfl (lv_at hl 0 rfl) ?_
        refine lv_iconst (v := 1) hx hb d_LW_law_725 (by decide) ?_
        refine lv_iadd hx hb d_LW_law_726 ?_
        refine qL_ld (j := ((3 + 5 * j) + 1)) hx hb hX hbl hbA hC.2 (qn_add rfl rfl) (by omega) hL d_LW_law_727 ?_
        refine qa_pV (k := 22) (i := 0) (As := [.int (xs ((3 + 5 * j) + 1))]) E hC (c_MD_solo l y u (xs ((3 + 5 * j) + 1)) u hI.1) Nat.one_pos rfl rfl k_LW_107 (qL_fit (by decide) (by decide)) rfl hl.1 rfl (Nat.le_of_ble_eq_true rfl) d_LW_law_728 ?_
        refine lv_icmp_eq hx hb d_LW_law_731 rfl (fun _ => ?_) (fun h9 => absurd rfl h9)
        refine lv_iinc (v := nI (3 + 5 * (j + 1))) hx hb d_LW_law_736 hl (k := 0) rfl (by rw [show 3 + 5 * (j + 1) = 3 + 5 * j + 5 by omega]; exact nI_add (3 + 5 * j) 5) (by decide) rfl (fun ls hl => ?_)
        refine lv_goto hx hb d_LW_law_739 rfl ?_
        exact ih (j + 1) F u H locs ls (by omega) (by omega) (by omega) hC hI hl
      · refine lv_tableOut (tgt := 736) hx hb d_LW_law_62 k62 rfl ?_
        refine lv_iinc (v := nI (3 + 5 * (j + 1))) hx hb d_LW_law_736 hl (k := 0) rfl (by rw [show 3 + 5 * (j + 1) = 3 + 5 * j + 5 by omega]; exact nI_add (3 + 5 * j) 5) (by decide) rfl (fun ls hl => ?_)
        refine lv_goto hx hb d_LW_law_739 rfl ?_
        exact ih (j + 1) F u H locs ls (by omega) (by omega) (by omega) hC hI hl
