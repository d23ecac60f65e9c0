set_option maxHeartbeats 4000000 in
set_option maxRecDepth 100000 in
theorem c_MD_tasks (l : Launch) (y : qa_L) (v : qa_M) (w : qa_M) (hR : qm_RM (qa_n y) w v) (hF : qm_fok w) (hM : qm_mok y w) (hP : qm_pok (qa_n y) w) : qa_Mv l y_MD_tasks b_MD_tasks 5 3 [.ref (qa_a y 22 0)] y v (fun u => qm_RM (qa_n y) (qm_P2 y w 4) u ∧ ∀ c b f, ¬ (c = 22 ∧ f = 25) → c ≠ 29 → c ≠ 31 → c ≠ 32 → c ≠ 42 → c ≠ 43 → u c b f = v c b f) := by
  refine qa_ofMv (plainFor_of_name (by decide)) (Nat.le_of_ble_eq_true rfl) ?_
  intro p e s m below meth c ls E hr hlocks hC hl
  have E : qa_E p m c b_MD_tasks 5 s _ "VotedFramesModel" y := E
  have F := E.1
  have hx := F.1
  have hb := F.2.1
  have hown : s.vm.findClass "VotedFramesModel" = some m.cls := F.2.2.2.1
  have hts := F.2.2.2.2
  have hn4 : 4 ≤ qa_n y := E.2.1.2.2.1
  have hn7 : qa_n y ≤ 7 := E.2.1.2.2.2.1
  have hl : lv_has ls 5 [(0, .ref (qa_a y 22 0))] := hl
  have loopT : ∀ (IB : Nat), IB + 7 ≤ 56 → (∀ j, j < qa_n y → qm_gi (qa_n y) w j = v 33 0 (IB + j)) → ∀ (d t : Nat) (u : qa_M) (H : Heap) (locs : List Loc) (ls : Array Slot), t + d = 4 → qa_C y u s H locs → (qm_RM (qa_n y) (qm_P2 y w t) u ∧ ∀ c b f, ¬ (c = 22 ∧ f = 25) → c ≠ 29 → c ≠ 31 → c ≠ 32 → c ≠ 42 → c ≠ 43 → u c b f = v c b f) → lv_has ls 5 [(3, .int (nI t)), (2, .int (nI IB)), (0, .ref (qa_a y 22 0))] → W p l e (qa_R 3) s m [.ref (qa_a y 22 0)].toArray below meth c H locs 0 0 (MQ below (va_Qv (fun u => qm_RM (qa_n y) (qm_P2 y w 4) u ∧ ∀ c b f, ¬ (c = 22 ∧ f = 25) → c ≠ 29 → c ≠ 31 → c ≠ 32 → c ≠ 42 → c ≠ 43 → u c b f = v c b f) (fun u t => qa_W y u t) (qa_A y)) [.ref (qa_a y 22 0)].toArray s 0 0 (qa_A y)) (F0 m 45 ls []) := by
    intro IB hIB hGi
    have loopT1 : ∀ (d t : Nat) (u : qa_M) (H : Heap) (locs : List Loc) (ls : Array Slot), t + d = 4 → qa_C y u s H locs → (qm_RM (qa_n y) (qm_P2 y w t) u ∧ ∀ c b f, ¬ (c = 22 ∧ f = 25) → c ≠ 29 → c ≠ 31 → c ≠ 32 → c ≠ 42 → c ≠ 43 → u c b f = v c b f) → lv_has ls 5 [(3, .int (nI t)), (2, .int (nI IB)), (0, .ref (qa_a y 22 0))] → W p l e (qa_R 3) s m [.ref (qa_a y 22 0)].toArray below meth c H locs 0 0 (MQ below (va_Qv (fun u => qm_RM (qa_n y) (qm_P2 y w 4) u ∧ ∀ c b f, ¬ (c = 22 ∧ f = 25) → c ≠ 29 → c ≠ 31 → c ≠ 32 → c ≠ 42 → c ≠ 43 → u c b f = v c b f) (fun u t => qa_W y u t) (qa_A y)) [.ref (qa_a y 22 0)].toArray s 0 0 (qa_A y)) (F0 m 45 ls []) := by
      intro d
      induction d with
      | zero =>
        intro t u H locs ls hkd hC hI hl
        obtain rfl : 4 = t := by omega
        refine lv_iload_n hx hb d_MD_tasks_45 rfl (lv_at hl 0 rfl) ?_
        refine lv_iconst (v := 4) hx hb d_MD_tasks_46 (by decide) ?_
        refine lv_icmp_ge hx hb d_MD_tasks_47 rfl (fun _ => ?_) (fun h9 => absurd (show (4 : Int32) ≤ nI 4 by decide) h9)
        exact qa_mvret E hC hr hlocks hI d_MD_tasks_145
      | succ d ihT =>
        intro t u H locs ls hkd hC hI hl
        have ht : t < 4 := by omega
        obtain ⟨hRt, hfr⟩ := hI
        obtain ⟨wt, hwt⟩ : ∃ wt, wt = qm_P2 y w t := ⟨_, rfl⟩
        rw [← hwt] at hRt
        have w2 : ∀ b f, f ≠ 13 → wt 2 b f = w 2 b f := fun b f h => by rw [hwt]; exact qm_P2_k t (by decide) (by decide) (fun z => h z.2)
        have w0 : wt 0 = w 0 := by rw [hwt]; exact qm_P2_kk t (by decide) (by decide) (by decide)
        have hPt : qm_pok (qa_n y) wt := by rw [hwt]; exact qm_pok_n (qm_P2_kk t (by decide) (by decide) (by decide)) (qm_P2_kk t (by decide) (by decide) (by decide)) (qm_P2_kk t (by decide) (by decide) (by decide)) hP
        have hMt : qm_mok y wt := qm_mok_n (fun i => w2 i 11 (by decide)) hM
        have hFt : qm_fok wt := by
          obtain ⟨F9, g1, g2⟩ := hF
          exact ⟨F9, g1, by rw [w0]; exact g2⟩
        obtain ⟨L, hL12, hLw, hok⟩ := hPt t ht
        have hgt : qm_gi (qa_n y) wt = qm_gi (qa_n y) w := by rw [hwt]; exact qm_gi_P2 t
        have hPs : qm_P2 y w (t + 1) = qm_Pt y t wt := by rw [hwt]; rfl
        refine lv_iload_n hx hb d_MD_tasks_45 rfl (lv_at hl 0 rfl) ?_
        refine lv_iconst (v := 4) hx hb d_MD_tasks_46 (by decide) ?_
        refine lv_icmp_ge hx hb d_MD_tasks_47 rfl (fun h9 => absurd h9 (show ¬ (4 : Int32) ≤ nI t from nI_ge (b := 4) ht (by decide))) (fun _ => ?_)
        refine lv_aload_n hx hb d_MD_tasks_50 rfl (lv_at hl 2 rfl) ?_
        refine lv_iload_n hx hb d_MD_tasks_51 rfl (lv_at hl 0 rfl) ?_
        refine qa_pV (k := 22) (i := 0) (As := [.int (nI t)]) E hC (c_MD_isDue l y u t ht wt hRt) Nat.one_pos rfl rfl k_MD_145 (qa_fitR (by decide) (by decide)) rfl hl.1 rfl (Nat.le_of_ble_eq_true rfl) d_MD_tasks_52 ?_
        refine lv_if_eq hx hb d_MD_tasks_55 rfl (fun h55 => ?_) (fun h55 => ?_)
        · refine lv_iinc (v := nI (t + 1)) hx hb d_MD_tasks_139 hl (k := 0) rfl (nI_1 t) (by decide) rfl (fun ls hl => ?_)
          have hl : lv_has ls 5 [(3, .int (nI (t + 1))), (2, .int (nI IB)), (0, .ref (qa_a y 22 0))] := hl
          refine lv_goto hx hb d_MD_tasks_142 rfl ?_
          have hnd := qb_e0 h55
          refine ihT (t + 1) u H locs ls (by omega) hC ⟨by rw [hPs, qm_Pt_not hnd]; exact hRt, hfr⟩ (lv_sub hl [0, 1, 2] rfl)
        · refine lv_iconst (v := 0) hx hb d_MD_tasks_58 (by decide) ?_
          refine lv_istore hx hb d_MD_tasks_59 hl (by decide) rfl (fun ls hl => ?_)
          have hl : lv_has ls 5 [(4, .int 0), (3, .int (nI t)), (2, .int (nI IB)), (0, .ref (qa_a y 22 0))] := hl
          have hdue := qb_n0 h55
          obtain ⟨g, hg⟩ : ∃ g : qa_M, g = u := ⟨_, rfl⟩
          have hRg : qm_RM (qa_n y) wt g := by rw [hg]; exact hRt
          have hfg : ∀ c b f, ¬ (c = 22 ∧ f = 25) → c ≠ 29 → c ≠ 31 → c ≠ 32 → c ≠ 42 → c ≠ 43 → g c b f = v c b f := by rw [hg]; exact hfr
          have loopR : ∀ (d k : Nat) (u : qa_M) (H : Heap) (locs : List Loc) (ls : Array Slot), k + d = qa_n y → qa_C y u s H locs → ((∀ c b f, ¬ (c = 22 ∧ f = 25) → c ≠ 31 → c ≠ 42 → u c b f = g c b f) ∧ ∀ a, a < k → u 31 0 a = qm_rs wt t a) → lv_has ls 5 [(4, .int (nI k)), (3, .int (nI t)), (2, .int (nI IB)), (0, .ref (qa_a y 22 0))] → W p l e (qa_R 3) s m [.ref (qa_a y 22 0)].toArray below meth c H locs 0 0 (MQ below (va_Qv (fun u => qm_RM (qa_n y) (qm_P2 y w 4) u ∧ ∀ c b f, ¬ (c = 22 ∧ f = 25) → c ≠ 29 → c ≠ 31 → c ≠ 32 → c ≠ 42 → c ≠ 43 → u c b f = v c b f) (fun u t => qa_W y u t) (qa_A y)) [.ref (qa_a y 22 0)].toArray s 0 0 (qa_A y)) (F0 m 61 ls []) := by
            intro d
            induction d with
            | zero =>
              intro k u H locs ls hkd hC hR1 hl
              obtain rfl : qa_n y = k := by omega
              refine lv_iload hx hb d_MD_tasks_61 (lv_at hl 0 rfl) ?_
              refine lv_aload_n hx hb d_MD_tasks_63 rfl (lv_at hl 3 rfl) ?_
              refine qa_get (k := 22) (i := 0) (f := 0) (val := .int (nI (qa_n y))) E hC Nat.one_pos rfl rfl (by decide) f_MD_73 rfl rfl d_MD_tasks_64 ?_
              refine lv_icmp_ge hx hb d_MD_tasks_67 rfl (fun _ => ?_) (fun h9 => absurd (nI_le (Nat.le_refl _) (by omega)) h9)
              refine lv_iconst (v := 0) hx hb d_MD_tasks_97 (by decide) ?_
              refine lv_istore hx hb d_MD_tasks_98 hl (by decide) rfl (fun ls hl => ?_)
              have hl : lv_has ls 5 [(4, .int 0), (3, .int (nI t)), (2, .int (nI IB)), (0, .ref (qa_a y 22 0))] := hl
              obtain ⟨g2, hg2⟩ : ∃ g2 : qa_M, g2 = u := ⟨_, rfl⟩
              rw [← hg2] at hR1
              have hRg2 : qm_RM (qa_n y) wt g2 := qm_RM_n hRg (fun c b f q22 q31 q42 _ _ => hR1.1 c b f (fun z => by omega) q31 q42)
              have hV0 : qm_RM (qa_n y) (qm_Pk y t wt 0) u := by rw [qm_Pk_0, ← hg2]; exact hRg2
              have loopV : ∀ (d k : Nat) (u : qa_M) (H : Heap) (locs : List Loc) (ls : Array Slot), k + d = qa_n y → qa_C y u s H locs → (qm_RM (qa_n y) (qm_Pk y t wt k) u ∧ ∀ c b f, c ≠ 29 → c ≠ 32 → c ≠ 43 → u c b f = g2 c b f) → lv_has ls 5 [(4, .int (nI k)), (3, .int (nI t)), (2, .int (nI IB)), (0, .ref (qa_a y 22 0))] → W p l e (qa_R 3) s m [.ref (qa_a y 22 0)].toArray below meth c H locs 0 0 (MQ below (va_Qv (fun u => qm_RM (qa_n y) (qm_P2 y w 4) u ∧ ∀ c b f, ¬ (c = 22 ∧ f = 25) → c ≠ 29 → c ≠ 31 → c ≠ 32 → c ≠ 42 → c ≠ 43 → u c b f = v c b f) (fun u t => qa_W y u t) (qa_A y)) [.ref (qa_a y 22 0)].toArray s 0 0 (qa_A y)) (F0 m 100 ls []) := by
                intro d
                induction d with
                | zero =>
                  intro k u H locs ls hkd hC hV hl
                  obtain rfl : qa_n y = k := by omega
                  have hRv := hV.1
                  have hLv : u 39 0 t = nI L := by rw [qr_13 hRv ht (c := 2) (by omega), qm_Pk_k (by decide) (by omega)]; exact hLw
                  have hokv : ∀ z, z < L → qm_iok (qa_n y) (qm_Pk y t wt (qa_n y) 14 t z) (qm_Pk y t wt (qa_n y) 15 t z) := fun z hz => by rw [qm_Pk_k (by decide) (by omega), qm_Pk_k (by decide) (by omega)]; exact hok z hz
                  have eex := qm_pl_ex (L := L) (IB := IB) (WB := 28) (inp := qm_gi (qa_n y) wt) (wds := wt 18 0) hn7 hRv ht hL12 hokv (fun j hj => by
                    rw [hV.2 33 0 _ (by decide) (by decide) (by decide), hR1.1 33 0 _ (by omega) (by decide) (by decide), hfg 33 0 _ (by omega) (by decide) (by decide) (by decide) (by decide) (by decide), hgt]
                    exact (hGi j hj).symm) (fun j hj => by rw [qr_sol hRv hj, qm_Pk_k (by decide) (by omega)])
                  refine lv_iload hx hb d_MD_tasks_100 (lv_at hl 0 rfl) ?_
                  refine lv_aload_n hx hb d_MD_tasks_102 rfl (lv_at hl 3 rfl) ?_
                  refine qa_get (k := 22) (i := 0) (f := 0) (val := .int (nI (qa_n y))) E hC Nat.one_pos rfl rfl (by decide) f_MD_73 rfl rfl d_MD_tasks_103 ?_
                  refine lv_icmp_ge hx hb d_MD_tasks_106 rfl (fun _ => ?_) (fun h9 => absurd (nI_le (Nat.le_refl _) (by omega)) h9)
                  refine lv_aload_n hx hb d_MD_tasks_122 rfl (lv_at hl 3 rfl) ?_
                  refine qa_get (k := 22) (i := 0) (f := 14) (val := .ref (qa_a y 32 0)) E hC Nat.one_pos rfl rfl (by decide) f_MD_37 rfl rfl d_MD_tasks_123 ?_
                  refine lv_bipush (v := 28) hx hb d_MD_tasks_126 (by decide) ?_
                  refine lv_iload_n hx hb d_MD_tasks_128 rfl (lv_at hl 1 rfl) ?_
                  refine lv_iadd hx hb d_MD_tasks_129 ?_
                  refine lv_aload_n hx hb d_MD_tasks_130 rfl (lv_at hl 3 rfl) ?_
                  refine lv_iload_n hx hb d_MD_tasks_131 rfl (lv_at hl 1 rfl) ?_
                  refine lv_iload_n hx hb d_MD_tasks_132 rfl (lv_at hl 2 rfl) ?_
                  refine lv_bipush (v := 28) hx hb d_MD_tasks_133 (by decide) ?_
                  refine W.eq (g2 := F0 m 135 ls [.int (nI 28), .int (nI IB), .int (nI t), .ref (qa_a y 22 0), .int (28 + (nI t)), .ref (qa_a y 32 0)]) rfl ?_
                  refine qa_mV (k := 22) (i := 0) (As := [.int (nI t), .int (nI IB), .int (nI 28)]) E hC (c_MD_play l y u t L IB 28 ht hLv hL12 (qm_pl_ok hRv ht hL12 hokv) (by omega) (by omega)) Nat.one_pos rfl rfl k_MD_148 (qa_fitR (by decide) (by decide)) rfl hl.1 rfl (Nat.le_of_ble_eq_true rfl) d_MD_tasks_135 (fun r1 u1 H locs hp1 hC => ?_)
                  refine qa_ist (k := 32) (i := 0) (j := (28 + t)) E hC Nat.one_pos rfl rfl (qn_add rfl rfl) (show 28 + t < 32 by omega) d_MD_tasks_138 (fun H locs hC => ?_)
                  refine lv_iinc (v := nI (t + 1)) hx hb d_MD_tasks_139 hl (k := 1) rfl (nI_1 t) (by decide) rfl (fun ls hl => ?_)
                  have hl : lv_has ls 5 [(3, .int (nI (t + 1))), (4, .int (nI (qa_n y))), (2, .int (nI IB)), (0, .ref (qa_a y 22 0))] := hl
                  refine lv_goto hx hb d_MD_tasks_142 rfl ?_
                  refine ihT (t + 1) _ H locs ls (by omega) hC ⟨?_, fun c b f h1 h2 h3 h4 h5 h6 => ?_⟩ (lv_sub hl [0, 2, 3] rfl)
                  · rw [hPs, ← qm_Pt_due (x := r1) hdue (by
                      rw [hp1.1, hLw, qm_ix_n (by omega), eex]
                      rw [show qm_Pk y t wt (qa_n y) 14 t = wt 14 t from funext fun z => qm_Pk_k (by decide) (by omega), show qm_Pk y t wt (qa_n y) 15 t = wt 15 t from funext fun z => qm_Pk_k (by decide) (by omega)])]
                    exact qm_RM_up hn7 (qm_RM_n hRv (fun c b f q22 q31 q42 _ _ => hp1.2 c b f (fun z => by omega) q42)) (qm_mu_s ht)
                  · rw [qa_up_k h4, hp1.2 c b f h1 h5, hV.2 c b f h2 h4 h6, hR1.1 c b f h1 h3 h5]; exact hfg c b f h1 h2 h3 h4 h5 h6
                | succ d ihV =>
                  intro k u H locs ls hkd hC hV hl
                  have hk : k < qa_n y := by omega
                  have hMk : qm_mok y (qm_Pk y t wt k) := qm_mok_n (fun i => qm_Pk_k (by decide) (by omega)) hMt
                  have hFk : qm_fok (qm_Pk y t wt k) := by
                    obtain ⟨F9, g1, g2⟩ := hFt
                    exact ⟨F9, g1, by rw [qm_Pk_k (by decide) (by omega)]; exact g2⟩
                  refine lv_iload hx hb d_MD_tasks_100 (lv_at hl 0 rfl) ?_
                  refine lv_aload_n hx hb d_MD_tasks_102 rfl (lv_at hl 3 rfl) ?_
                  refine qa_get (k := 22) (i := 0) (f := 0) (val := .int (nI (qa_n y))) E hC Nat.one_pos rfl rfl (by decide) f_MD_73 rfl rfl d_MD_tasks_103 ?_
                  refine lv_icmp_ge hx hb d_MD_tasks_106 rfl (fun h9 => absurd h9 (nI_ge hk (by omega))) (fun _ => ?_)
                  refine lv_aload_n hx hb d_MD_tasks_109 rfl (lv_at hl 3 rfl) ?_
                  refine lv_iload hx hb d_MD_tasks_110 (lv_at hl 0 rfl) ?_
                  refine lv_iload_n hx hb d_MD_tasks_112 rfl (lv_at hl 1 rfl) ?_
                  refine qa_mVv (k := 22) (i := 0) (As := [.int (nI k), .int (nI t)]) E hC (c_MD_vote l y u k t hk ht (qm_Pk y t wt k) hV.1 hFk hMk (qm_bl_sz hn4 hn7 hMk hk)) Nat.one_pos rfl rfl k_MD_151 (qa_fitR (by decide) (by decide)) rfl hl.1 rfl (Nat.le_of_ble_eq_true rfl) d_MD_tasks_113 (fun u2 H locs hp2 hC => ?_)
                  refine lv_iinc (v := nI (k + 1)) hx hb d_MD_tasks_116 hl (k := 0) rfl (nI_1 k) (by decide) rfl (fun ls hl => ?_)
                  have hl : lv_has ls 5 [(4, .int (nI (k + 1))), (3, .int (nI t)), (2, .int (nI IB)), (0, .ref (qa_a y 22 0))] := hl
                  refine lv_goto hx hb d_MD_tasks_119 rfl ?_
                  refine ihV (k + 1) _ H locs ls (by omega) hC ⟨?_, fun c b f h1 h2 h3 => ?_⟩ (lv_sub hl [0, 1, 2, 3] rfl)
                  · have e9 := qm_Pk_s (y := y) (t := t) (v := wt) (k := k) (rs := u 31 0) (x := u 29 0 k) hk (fun j hj => by rw [hV.2 31 0 j (by decide) (by decide) (by decide)]; exact hR1.2 j hj) (by rw [qr_blm hV.1 hk]; unfold qm_Pk; rw [if_neg (by omega), if_neg (by omega)])
                    rw [← e9]
                    exact qm_RM_n (qm_RM_up hn7 (qm_RM_up hn7 hV.1 (qm_mu_w hk ht)) (qm_mu_2 (k := 29) (c := 13) hk (by omega))) (fun c b f _ _ _ h43 _ => hp2 c b f h43)
                  · rw [hp2 c b f h3, qa_up_k h1, qa_up_k h2]; exact hV.2 c b f h1 h2 h3
              exact loopV (qa_n y) 0 u H locs ls (by omega) hC ⟨hV0, fun c b f _ _ _ => by rw [hg2]⟩ (lv_sub hl [0, 1, 2, 3] rfl)
            | succ d ihR =>
              intro k u H locs ls hkd hC hR1 hl
              have hk : k < qa_n y := by omega
              have hRr : qm_RM (qa_n y) wt u := qm_RM_n hRg (fun c b f q22 q31 q42 _ _ => hR1.1 c b f (fun z => by omega) q31 q42)
              refine lv_iload hx hb d_MD_tasks_61 (lv_at hl 0 rfl) ?_
              refine lv_aload_n hx hb d_MD_tasks_63 rfl (lv_at hl 3 rfl) ?_
              refine qa_get (k := 22) (i := 0) (f := 0) (val := .int (nI (qa_n y))) E hC Nat.one_pos rfl rfl (by decide) f_MD_73 rfl rfl d_MD_tasks_64 ?_
              refine lv_icmp_ge hx hb d_MD_tasks_67 rfl (fun h9 => absurd h9 (nI_ge hk (by omega))) (fun _ => ?_)
              refine lv_aload_n hx hb d_MD_tasks_70 rfl (lv_at hl 3 rfl) ?_
              refine qa_get (k := 22) (i := 0) (f := 13) (val := .ref (qa_a y 31 0)) E hC Nat.one_pos rfl rfl (by decide) f_MD_34 rfl rfl d_MD_tasks_71 ?_
              refine lv_iload hx hb d_MD_tasks_74 (lv_at hl 0 rfl) ?_
              refine lv_aload_n hx hb d_MD_tasks_76 rfl (lv_at hl 3 rfl) ?_
              refine lv_iload_n hx hb d_MD_tasks_77 rfl (lv_at hl 1 rfl) ?_
              refine lv_bipush (v := 7) hx hb d_MD_tasks_78 (by decide) ?_
              refine lv_iload hx hb d_MD_tasks_80 (lv_at hl 0 rfl) ?_
              refine lv_imul hx hb d_MD_tasks_82 ?_
              refine lv_iconst (v := 4) hx hb d_MD_tasks_83 (by decide) ?_
              refine lv_iload hx hb d_MD_tasks_84 (lv_at hl 0 rfl) ?_
              refine lv_imul hx hb d_MD_tasks_86 ?_
              rw [show (7 : Int32) * nI k = nI (7 * k) from pk_mul 7 k, show (4 : Int32) * nI k = nI (4 * k) from pk_mul 4 k]
              refine qa_mV (k := 22) (i := 0) (As := [.int (nI t), .int (nI (7 * k)), .int (nI (4 * k))]) E hC (c_MD_play l y u t L (7 * k) (4 * k) ht (by rw [qr_13 hRr ht (c := 2) (by omega)]; exact hLw) hL12 (qm_pl_ok hRr ht hL12 hok) (by omega) (by omega)) Nat.one_pos rfl rfl k_MD_148 (qa_fitR (by decide) (by decide)) rfl hl.1 rfl (Nat.le_of_ble_eq_true rfl) d_MD_tasks_87 (fun r3 u3 H locs hp3 hC => ?_)
              refine qa_ist (k := 31) (i := 0) (j := k) E hC Nat.one_pos rfl rfl rfl (show k < 7 by omega) d_MD_tasks_90 (fun H locs hC => ?_)
              refine lv_iinc (v := nI (k + 1)) hx hb d_MD_tasks_91 hl (k := 0) rfl (nI_1 k) (by decide) rfl (fun ls hl => ?_)
              have hl : lv_has ls 5 [(4, .int (nI (k + 1))), (3, .int (nI t)), (2, .int (nI IB)), (0, .ref (qa_a y 22 0))] := hl
              refine lv_goto hx hb d_MD_tasks_94 rfl ?_
              refine ihR (k + 1) _ H locs ls (by omega) hC ⟨fun c b f h1 h2 h3 => ?_, ?_⟩ (lv_sub hl [0, 1, 2, 3] rfl)
              · rw [qa_up_k h2, hp3.2 c b f h1 h3]; exact hR1.1 c b f h1 h2 h3
              · intro a ha
                by_cases z : a = k
                · subst z
                  rw [qa_up_s, hp3.1]
                  unfold qm_rs
                  rw [hLw, qm_ix_n (by omega)]
                  exact qm_pl_ex hn7 hRr ht hL12 hok (fun j hj => qr_inp hRr hk hj) (fun j hj => qr_wrd hRr hk hj)
                · rw [qa_up_f z, hp3.2 31 0 a (by omega) (by decide)]
                  exact hR1.2 a (by omega)
          exact loopR (qa_n y) 0 u H locs ls (by omega) hC ⟨fun c b f _ _ _ => by rw [hg], fun a ha => absurd ha (by omega)⟩ (lv_sub hl [0, 1, 2, 3] rfl)
    exact loopT1
  have loop : ∀ (d a : Nat) (ls : Array Slot), a + d = qa_n y → (∀ b, b < a → ¬ w 2 b 9 = 0) → lv_has ls 5 [(1, .int (nI a)), (0, .ref (qa_a y 22 0))] → W p l e (qa_R 3) s m [.ref (qa_a y 22 0)].toArray below meth c s.heap [] 0 0 (MQ below (va_Qv (fun u => qm_RM (qa_n y) (qm_P2 y w 4) u ∧ ∀ c b f, ¬ (c = 22 ∧ f = 25) → c ≠ 29 → c ≠ 31 → c ≠ 32 → c ≠ 42 → c ≠ 43 → u c b f = v c b f) (fun u t => qa_W y u t) (qa_A y)) [.ref (qa_a y 22 0)].toArray s 0 0 (qa_A y)) (F0 m 2 ls []) := by
    intro d
    induction d with
    | zero =>
      intro a ls hkd hI hl
      obtain rfl : qa_n y = a := by omega
      refine lv_iload_n hx hb d_MD_tasks_2 rfl (lv_at hl 0 rfl) ?_
      refine lv_aload_n hx hb d_MD_tasks_3 rfl (lv_at hl 1 rfl) ?_
      refine qa_get (k := 22) (i := 0) (f := 0) (val := .int (nI (qa_n y))) E hC Nat.one_pos rfl rfl (by decide) f_MD_73 rfl rfl d_MD_tasks_4 ?_
      refine lv_icmp_ge hx hb d_MD_tasks_7 rfl (fun _ => ?_) (fun h9 => absurd (nI_le (Nat.le_refl _) (by omega)) h9)
      refine lv_iload_n hx hb d_MD_tasks_25 rfl (lv_at hl 0 rfl) ?_
      refine lv_aload_n hx hb d_MD_tasks_26 rfl (lv_at hl 1 rfl) ?_
      refine qa_get (k := 22) (i := 0) (f := 0) (val := .int (nI (qa_n y))) E hC Nat.one_pos rfl rfl (by decide) f_MD_73 rfl rfl d_MD_tasks_27 ?_
      refine lv_icmp_ge hx hb d_MD_tasks_30 rfl (fun _ => ?_) (fun h9 => absurd (nI_le (Nat.le_refl _) (by omega)) h9)
      refine lv_bipush (v := 49) hx hb d_MD_tasks_40 (by decide) ?_
      refine W.eq (g2 := F0 m 42 ls [.int (nI 49)]) rfl ?_
      refine lv_istore_n hx hb d_MD_tasks_42 rfl hl (by decide) rfl (fun ls hl => ?_)
      have hl : lv_has ls 5 [(2, .int (nI 49)), (1, .int (nI (qa_n y))), (0, .ref (qa_a y 22 0))] := hl
      refine lv_iconst (v := 0) hx hb d_MD_tasks_43 (by decide) ?_
      refine lv_istore_n hx hb d_MD_tasks_44 rfl hl (by decide) rfl (fun ls hl => ?_)
      have hl : lv_has ls 5 [(3, .int 0), (2, .int (nI 49)), (1, .int (nI (qa_n y))), (0, .ref (qa_a y 22 0))] := hl
      exact loopT 49 (by omega) (fun j hj => by rw [qm_gi_no hI]; exact (hR.2 j (by omega)).symm) 4 0 v _ _ ls (by omega) hC ⟨hR, fun _ _ _ _ _ _ _ _ _ => rfl⟩ (lv_sub hl [0, 1, 3] rfl)
    | succ d ih =>
      intro a ls hkd hI hl
      have ha : a < qa_n y := by omega
      refine lv_iload_n hx hb d_MD_tasks_2 rfl (lv_at hl 0 rfl) ?_
      refine lv_aload_n hx hb d_MD_tasks_3 rfl (lv_at hl 1 rfl) ?_
      refine qa_get (k := 22) (i := 0) (f := 0) (val := .int (nI (qa_n y))) E hC Nat.one_pos rfl rfl (by decide) f_MD_73 rfl rfl d_MD_tasks_4 ?_
      refine lv_icmp_ge hx hb d_MD_tasks_7 rfl (fun h9 => absurd h9 (nI_ge ha (by omega))) (fun _ => ?_)
      refine lv_aload_n hx hb d_MD_tasks_10 rfl (lv_at hl 1 rfl) ?_
      refine qa_get (k := 22) (i := 0) (f := 8) (val := .ref (qa_a y 26 0)) E hC Nat.one_pos rfl rfl (by decide) f_MD_19 rfl rfl d_MD_tasks_11 ?_
      refine lv_iload_n hx hb d_MD_tasks_14 rfl (lv_at hl 0 rfl) ?_
      refine qa_ild (k := 26) (i := 0) (j := a) E hC Nat.one_pos rfl rfl rfl (show a < 7 by omega) d_MD_tasks_15 ?_
      refine lv_if_eq hx hb d_MD_tasks_16 rfl (fun h16 => ?_) (fun h16 => ?_)
      · refine lv_iload_n hx hb d_MD_tasks_25 rfl (lv_at hl 0 rfl) ?_
        refine lv_aload_n hx hb d_MD_tasks_26 rfl (lv_at hl 1 rfl) ?_
        refine qa_get (k := 22) (i := 0) (f := 0) (val := .int (nI (qa_n y))) E hC Nat.one_pos rfl rfl (by decide) f_MD_73 rfl rfl d_MD_tasks_27 ?_
        refine lv_icmp_ge hx hb d_MD_tasks_30 rfl (fun h9 => absurd h9 (nI_ge ha (by omega))) (fun _ => ?_)
        refine lv_bipush (v := 7) hx hb d_MD_tasks_33 (by decide) ?_
        refine lv_iload_n hx hb d_MD_tasks_35 rfl (lv_at hl 0 rfl) ?_
        refine lv_imul hx hb d_MD_tasks_36 ?_
        refine lv_goto hx hb d_MD_tasks_37 rfl ?_
        rw [show (7 : Int32) * nI a = nI (7 * a) from pk_mul 7 a]
        refine lv_istore_n hx hb d_MD_tasks_42 rfl hl (by decide) rfl (fun ls hl => ?_)
        have hl : lv_has ls 5 [(2, .int (nI (7 * a))), (1, .int (nI a)), (0, .ref (qa_a y 22 0))] := hl
        refine lv_iconst (v := 0) hx hb d_MD_tasks_43 (by decide) ?_
        refine lv_istore_n hx hb d_MD_tasks_44 rfl hl (by decide) rfl (fun ls hl => ?_)
        have hl : lv_has ls 5 [(3, .int 0), (2, .int (nI (7 * a))), (1, .int (nI a)), (0, .ref (qa_a y 22 0))] := hl
        exact loopT (7 * a) (by omega) (fun j hj => by rw [qm_gi_at ha (by rw [← qr_knd hR ha]; exact h16) hI]; exact (qr_inp hR ha hj).symm) 4 0 v _ _ ls (by omega) hC ⟨hR, fun _ _ _ _ _ _ _ _ _ => rfl⟩ (lv_sub hl [0, 1, 3] rfl)
      · refine lv_iinc (v := nI (a + 1)) hx hb d_MD_tasks_19 hl (k := 0) rfl (nI_1 a) (by decide) rfl (fun ls hl => ?_)
        have hl : lv_has ls 5 [(1, .int (nI (a + 1))), (0, .ref (qa_a y 22 0))] := hl
        refine lv_goto hx hb d_MD_tasks_22 rfl ?_
        exact ih (a + 1) ls (by omega) (lt_s hI (by rw [← qr_knd hR ha]; exact h16)) (lv_sub hl [0, 1] rfl)
  refine lv_iconst (v := 0) hx hb d_MD_tasks_0 (by decide) ?_
  refine lv_istore_n hx hb d_MD_tasks_1 rfl hl (by decide) rfl (fun ls hl => ?_)
  have hl : lv_has ls 5 [(1, .int 0), (0, .ref (qa_a y 22 0))] := hl
  exact loop (qa_n y) 0 ls (by omega) lt_0 (lv_sub hl [0, 1] rfl)
