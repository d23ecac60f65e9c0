theorem qc_k_obj : Cond.code Lib.objectInit ⟨#[0xb1]⟩ 1 none ∈ qa_T := qa_m1 16 (by decide +kernel) rfl
theorem qc_k_obi : Cond.instanceMethod Lib.objectInit ∈ qa_T := qa_m1 15 (by decide +kernel) rfl
theorem qc_k_int : Cond.arrayClass .int ∈ qa_T := qa_m1 98 (by decide +kernel) rfl
theorem qc_ln_cap {y : qa_L} (h : qa_ok y) (k : Nat) : qa_ln y k ≤ 400 := by
  have hh : qa_h y ≤ 400 := by
    obtain ⟨-, -, h1, h2, h3, -, -⟩ := h
    have hm : qa_m y = 0 ∨ qa_m y = 1 ∨ qa_m y = 2 := by omega
    have hn : qa_n y = 4 ∨ qa_n y = 5 ∨ qa_n y = 6 ∨ qa_n y = 7 := by omega
    unfold qa_h
    rcases hm with e | e | e <;> rcases hn with f | f | f | f <;> rw [e, f] <;> decide
  obtain ⟨-, -, h1, h2, h3, -, -⟩ := h
  unfold qa_ln
  split <;> omega
theorem qc_bytes {N : Nat} (h : N ≤ 400) : N * componentBytes .int ≤ 536870912 := by
  have h8 : componentBytes .int ≤ 8 := by decide
  exact Nat.le_trans (Nat.mul_le_mul h h8) (by decide)
section QC
variable {p : Program} {l : Launch} {e : Env} {R : Room} {s : State} {m : MethodId} {args : Array Value} {below : List Frame} {meth : Method} {c : Code} {H : Heap} {locs : List Loc} {cells slots : Nat} {Q : State → Prop}
variable {cc : ByteArray} {pc nL : Nat} {ls : Array Slot} {rest : List Value} {own : String} {y : qa_L} {v : qa_M} {k i t : Nat} {ex : List (Nat × va_E)}
theorem qc_obj {idx : Nat} (E : qc_E p m c cc nL s args own y) (hl : Cond.methodLink own idx Lib.objectInit ∈ qa_T) (hz : ls.size = nL) {a : Nat} (hr : (rest.map fun v => v.category).sum + 12 ≤ R.locals) (hfr : 1 ≤ R.frames) (hdg : decode cc pc = .ok (.invokespecial idx, 3))
    (kk : W p l e R s m args below meth c H locs cells slots Q (F0 m (pc + 3) ls rest)) : W p l e R s m args below meth c H locs cells slots Q (F0 m pc ls (.ref a :: rest)) := by
  obtain ⟨⟨⟨hx, hb, hml, hown, hts⟩, hK⟩, hX⟩ := E
  refine W.objInit hx hb hown (hts _ hl) (hts _ qc_k_obi) (hts _ qc_k_obj) rfl (by rw [hml]; exact hz) rfl hdg hfr ?_ kk
  have h0 : 2 * (F0 m pc ls (.ref a :: rest)).monitorRoom = 0 := rfl
  omega
theorem qc_new {C : String} {T : u_T} {N ci index : Nat} (E : qc_E p m c cc nL s args own y) (hC : qc_C y v t ex s H locs) (hk : qc_off (qa_n y) (qa_m y) k i = t) (hc : qa_Cl[ci]? = some (C, T, N)) (ty : Nat → FieldType) (hty : ∀ k, k < N → parseFieldDescriptor (T k).2.2.1 = some (ty k)) (hcl : Cond.classLink own index C ∈ qa_T) (hinst : Cond.instantiable C N ∈ qa_T) (hini : Cond.initialized C ∈ qa_T) {fs : List Value} (hfs : ∀ j, j < N → defaultValue (ty j) = vp_V fs j) (hcells : cells + 1 ≤ R.cells) (hslots : slots + N ≤ R.slots) (hdg : decode cc pc = .ok (.new index, 3))
    (kk : ∀ H1 : Heap, qc_C y v (t + 1) ((t, .inr (ci, fs)) :: ex) s H1 locs → W p l e R s m args below meth c H1 locs (cells + 1) (slots + N) Q (F0 m (pc + 3) ls (.ref (qa_a y k i) :: rest))) : W p l e R s m args below meth c H locs cells slots Q (F0 m pc ls rest) := by
  obtain ⟨⟨⟨hx, hb, hml, hown, hts⟩, hK⟩, hX⟩ := E
  have hKn := hK.2.1.1 ci _ hc
  refine W.newcK hx hb hown (hts _ hcl) (hts _ hinst) (hts _ hini) rfl hdg hcells hslots hKn.2.1 rfl fun H1 kC hkC e1 z1 o1 => ?_
  have ha : qa_a y k i = H.size := by rw [hX.1 k i, hk, hC.1.1]
  have hg := kk H1 ⟨hC.1.push z1 o1 ⟨_, hc, (u_born ty hts (qa_in ci hc) hKn hkC e1 hty).to hfs⟩, qc_S.push hC.2.1 z1 o1, hC.2.2⟩
  rw [ha] at hg
  exact hg
/-- an array of ints, as it will be -/
theorem qc_newa {x : Int32} {cap : Nat} (E : qc_E p m c cc nL s args own y) (hC : qc_C y v t ex s H locs) (hk : qc_off (qa_n y) (qa_m y) k i = t) (hi : i < qa_pr y k) (hcls : qa_cls k = none) (href : qa_ref y k = none) (hx : x = nI (qa_ln y k)) (hcap : qa_ln y k ≤ cap) (hv : v k i = fun _ => 0) (hcells : cells + 1 ≤ R.cells) (hslots : slots + cap ≤ R.slots) (hdg : decode cc pc = .ok (.newarray .int, 2))
    (kk : ∀ H1 : Heap, qc_C y v (t + 1) ex s H1 locs → W p l e R s m args below meth c H1 locs (cells + 1) (slots + cap) Q (F0 m (pc + 2) ls (.ref (qa_a y k i) :: rest))) : W p l e R s m args below meth c H locs cells slots Q (F0 m pc ls (.int x :: rest)) := by
  obtain ⟨⟨⟨hex, hb, hml, hown, hts⟩, hK⟩, hX⟩ := E
  have h31 := qa_ln_lt hK.1 k
  have h400 := qc_ln_cap hK.1 k
  subst hx
  refine va_newaK (atype := .int) hex hb (hts _ qc_k_int) rfl hdg rfl (N := qa_ln y k) (nI_pos h31) (nI_clamp h31) (qc_bytes h400) hcells (Nat.le_trans (Nat.add_le_add_left hcap _) hslots) rfl fun H1 cA e1 z1 o1 hAr hNm => ?_
  have hcA : cA = qa_c y 0 := Option.some.inj (hNm.symm.trans (hK.2.1.2 0 _ rfl).2)
  subst hcA
  have ha : qa_a y k i = H.size := by rw [hX.1 k i, hk, hC.1.1]
  have hP := hC.1.push z1 o1 (e := .inl (qa_c y 0, (qa_ln y k, .inl (fun _ => 0)))) e1
  have hP2 := hP.drop (fun x hx => Nat.ne_of_lt (hC.1.2.1 x hx)) (fun h => by rw [qc_G_at hi hk, qa_cell_a hcls href, hv]; exact h)
  have hg := kk H1 ⟨hP2, qc_S.push hC.2.1 z1 o1, hC.2.2⟩
  rw [ha] at hg
  exact W.widen (Nat.le_refl _) (Nat.add_le_add_left hcap _) hg
/-- an array of ints that is written to later -/
theorem qc_newm {x : Int32} {N : Nat} (E : qc_E p m c cc nL s args own y) (hC : qc_C y v t ex s H locs) (hk : qc_off (qa_n y) (qa_m y) k i = t) (hx : x = nI N) (hN : N ≤ 400) (hcells : cells + 1 ≤ R.cells) (hslots : slots + N ≤ R.slots) (hdg : decode cc pc = .ok (.newarray .int, 2))
    (kk : ∀ H1 : Heap, qc_C y v (t + 1) ((t, .inl (qa_c y 0, (N, .inl (fun _ => 0)))) :: ex) s H1 locs → W p l e R s m args below meth c H1 locs (cells + 1) (slots + N) Q (F0 m (pc + 2) ls (.ref (qa_a y k i) :: rest))) : W p l e R s m args below meth c H locs cells slots Q (F0 m pc ls (.int x :: rest)) := by
  obtain ⟨⟨⟨hex, hb, hml, hown, hts⟩, hK⟩, hX⟩ := E
  subst hx
  refine va_newaK (atype := .int) hex hb (hts _ qc_k_int) rfl hdg rfl (N := N) (nI_pos (by omega)) (nI_clamp (by omega)) (qc_bytes hN) hcells hslots rfl fun H1 cA e1 z1 o1 hAr hNm => ?_
  have hcA : cA = qa_c y 0 := Option.some.inj (hNm.symm.trans (hK.2.1.2 0 _ rfl).2)
  subst hcA
  have ha : qa_a y k i = H.size := by rw [hX.1 k i, hk, hC.1.1]
  have hP := hC.1.push z1 o1 (e := .inl (qa_c y 0, (N, .inl (fun _ => 0)))) e1
  have hg := kk H1 ⟨hP, qc_S.push hC.2.1 z1 o1, hC.2.2⟩
  rw [ha] at hg
  exact hg
/-- an array of references, empty -/
theorem qc_newq {x : Int32} {N index t0 : Nat} {C : String} (E : qc_E p m c cc nL s args own y) (hC : qc_C y v t ex s H locs) (hover : va_AO C s) (ht : (qa_tys y)[t0]? = some (qa_c y t0, .object C)) (hk : qc_off (qa_n y) (qa_m y) k i = t) (hx : x = nI N) (hN : N ≤ 400) (hcl : Cond.classLink own index C ∈ qa_T) {cap : Nat} (hcap : N ≤ cap) (hcells : cells + 1 ≤ R.cells) (hslots : slots + cap ≤ R.slots) (hdg : decode cc pc = .ok (.anewarray index, 3))
    (kk : ∀ H1 : Heap, qc_C y v (t + 1) ((t, .inl (qa_c y t0, (N, .inr (.inr (.inr (.inr (fun _ => none))))))) :: ex) s H1 locs → W p l e R s m args below meth c H1 locs (cells + 1) (slots + cap) Q (F0 m (pc + 3) ls (.ref (qa_a y k i) :: rest))) : W p l e R s m args below meth c H locs cells slots Q (F0 m pc ls (.int x :: rest)) := by
  obtain ⟨⟨⟨hex, hb, hml, hown, hts⟩, hK⟩, hX⟩ := E
  subst hx
  have hcl0 : (nI N).toNatClampNeg = N := nI_clamp (by omega)
  refine W.anew hex hb hown (hts _ hcl) (va_AO.use hover) rfl hdg rfl (nI_pos (by omega)) (by rw [hcl0]; omega) hcells (by rw [hcl0]; omega) fun cA kA comp f1 f2 f3 f4 => ?_
  obtain ⟨kB, comB, b1, b2, b3, b4⟩ := (hK.2.1.2 t0 _ ht).2
  have hcA : cA = qa_c y t0 := Option.some.inj (f1.symm.trans b4)
  subst hcA
  rw [hcl0]
  generalize hH1 : H.push ({ cls := qa_c y t0, slots := Array.replicate N .null, vm := .none } : Cell) = H1
  have z1 : H1.size = H.size + 1 := by rw [← hH1, Array.size_push]
  have e1 : H1[H.size]? = some (arrV (qa_c y t0) N (fun _ => .null)) := by rw [← hH1, Array.getElem?_push_size, ← arrV_new]
  have o1 : ∀ q : Nat, q < H.size → H1[q]? = H[q]? := fun q hq => by rw [← hH1, Array.getElem?_push, if_neg (Nat.ne_of_lt hq)]
  have ha : qa_a y k i = H.size := by rw [hX.1 k i, hk, hC.1.1]
  have hP := hC.1.push z1 o1 (e := .inl (qa_c y t0, (N, .inr (.inr (.inr (.inr (fun _ => none))))))) e1
  have hg := kk H1 ⟨hP, qc_S.push hC.2.1 z1 o1, hC.2.2⟩
  rw [ha] at hg
  exact W.widen (Nat.le_refl _) (Nat.add_le_add_left hcap _) hg
theorem qc_get {C : String} {T : u_T} {N ci index f q : Nat} {fs : List Value} {val : Value} (E : qc_E p m c cc nL s args own y) (hC : qc_C y v t ((q, .inr (ci, fs)) :: ex) s H locs) (hk : qc_off (qa_n y) (qa_m y) k i = q) (hc : qa_Cl[ci]? = some (C, T, N)) (hf : f < N) (hl : Cond.fieldLink own index C (T f).2.1 (T f).2.2.1 ∈ qa_T) (hT : (T f).1 = C) (hv : fs[f]? = some val) (hdg : decode cc pc = .ok (.getfield index, 3))
    (kk : W p l e R s m args below meth c H locs cells slots Q (F0 m (pc + 3) ls (val :: rest))) : W p l e R s m args below meth c H locs cells slots Q (F0 m pc ls (.ref (qa_a y k i) :: rest)) := by
  obtain ⟨⟨⟨hx, hb, hml, hown, hts⟩, hK⟩, hX⟩ := E
  have h2 := hC.1.2.2 q (hC.1.2.1 _ List.mem_cons_self)
  rw [qc_g_h] at h2
  have ha : qa_a y k i = qa_a y 0 0 + q := by rw [hX.1 k i, hk]
  rw [ha]
  have hP : va_P (qa_D y) qa_Cl [(qa_a y 0 0 + q, .inr (ci, fs))] H := fun j z hz => by
    have h0 : j < 1 := (List.getElem?_eq_some_iff.mp hz).1
    rw [show j = 0 by omega] at hz
    cases hz
    exact h2
  exact va_get hx hb hts (qa_in ci hc) hown hK.2.1 hP 0 rfl hc f hf (hts _ hl) (fun x h => by rw [hT] at h; exact h) (v := val) hv hdg kk
theorem qc_put {C : String} {T : u_T} {N ci index f q : Nat} {fs : List Value} {val : Value} {ty : FieldType} (E : qc_E p m c cc nL s args own y) (hC : qc_C y v t ((q, .inr (ci, fs)) :: ex) s H locs) (hk : qc_off (qa_n y) (qa_m y) k i = q) (hc : qa_Cl[ci]? = some (C, T, N)) (hf : f < N) (hl : Cond.fieldLink own index C (T f).2.1 (T f).2.2.1 ∈ qa_T) (hT : (T f).1 = C) (hfin : (T f).2.2.2 = false ∨ ((T f).2.2.2 = true ∧ meth.name = "<init>" ∧ C = own)) (hd : parseFieldDescriptor (T f).2.2.1 = some ty) (hn : narrow ty val = val) (hfit : fits ty val = true) (hlen : f < fs.length) (hdg : decode cc pc = .ok (.putfield index, 3))
    (kk : ∀ (H1 : Heap) (locs1 : List Loc), qc_C y v t ((q, .inr (ci, fs.set f val)) :: ex) s H1 locs1 → W p l e R s m args below meth c H1 locs1 cells slots Q (F0 m (pc + 3) ls rest)) : W p l e R s m args below meth c H locs cells slots Q (F0 m pc ls (val :: .ref (qa_a y k i) :: rest)) := by
  obtain ⟨⟨⟨hx, hb, hml, hown, hts⟩, hK⟩, hX⟩ := E
  obtain ⟨tyf, hty, hnm⟩ := qa_tn ci hc
  have hin := qa_in ci hc
  have hap := va_apart (own := own) hts hin tyf hty hnm hK.2.1 hc
  have ha : qa_a y k i = qa_a y 0 0 + q := by rw [hX.1 k i, hk]
  rw [ha]
  have h2 := hC.1.2.2 q (hC.1.2.1 _ List.mem_cons_self)
  rw [qc_g_h] at h2
  obtain ⟨r, h1, cell, q1, q2, q3, q4⟩ := h2
  have hr : r = (C, T, N) := Option.some.inj (h1.symm.trans hc)
  subst hr
  obtain ⟨hS, hfc, kC, hkC, hkind⟩ := hK.2.1.1 ci _ hc
  obtain ⟨cf, kf, fi, fd, hi, hsl⟩ := hS f hf
  have hlay := hts _ (hin _ (u_in_lay hf))
  unfold u_lay at hlay
  have hst := (u_facts hfc hkC (u_lays hts hin hf) hi).1
  have hi' : s.fieldFound? C (T f).2.1 (T f).2.2.1 = some (cf, kf, fi, fd) := by rw [← hT]; exact hi
  have done : ∀ H' : Heap, H'[qa_a y 0 0 + q]? = some (cell.setSlot (qa_D y |>.2 ci f) val) → H'.size = H.size → (∀ a, a ≠ qa_a y 0 0 + q → H'[a]? = H[a]?) → qc_C y v t ((q, .inr (ci, fs.set f val)) :: ex) s H' (locs ++ [⟨qa_a y 0 0 + q, qa_D y |>.2 ci f⟩]) := fun H' e1 e2 e3 =>
    ⟨hC.1.put e2 e3 ⟨_, hc, t_OB.to (V := updV (vp_V fs) f val) ⟨_, e1, q2, q3, t_set q4 hap hf val⟩ (fun j _ => vp_updV_set hlen val j)⟩, hC.2.1.put e2 e3 (Nat.le_add_right _ _), hC.2.2⟩
  rcases hfin with hfin | ⟨hfin, hin2, hdecl⟩
  · rw [if_neg (by rw [hfin]; decide)] at hlay
    have h6 := u_store hfc hkC hkind hlay hi hd hn hfit
    refine W.putK hx hb (f := fd) ⟨hown, hts _ hl, ⟨_, _, _, hi'⟩, hst⟩ (by rw [q2]; exact h6) q1 q3 (by rw [hsl]; exact k2_hasslot (q4 f hf)) rfl rfl hdg fun H' e1 e2 e3 => ?_
    rw [hsl] at e1 ⊢
    exact kk H' _ (done H' e1 e2 e3)
  · rw [if_pos hfin] at hlay
    have hcf : m.cls = cf := by
      obtain ⟨_, _, c', _, _, _, -, -, hf', -, -, -, hown2, -⟩ := Cond.laysFinal_spec hlay
      have e1 : c' = cf := by have := hi.symm.trans hf'; simp at this; exact this.1.symm
      rw [hT, hdecl] at hown2
      rw [← e1]; exact Option.some.inj (hown.symm.trans hown2)
    have h6 := u_fits hfc hkC hkind (Or.inr hlay) hi hd hn hfit
    refine W.putFinK hx hb hown (hts _ hl) hi' hst hcf hin2 (by rw [q2]; exact h6) q1 q3 (by rw [hsl]; exact k2_hasslot (q4 f hf)) rfl rfl hdg fun H' e1 e2 e3 => ?_
    rw [hsl] at e1 ⊢
    exact kk H' _ (done H' e1 e2 e3)
/-- a store of a made object into an array of references that is being made -/
theorem qc_ast {x : Int32} {N j t0 q k2 i2 q2 ci NN : Nat} {C : String} {T : u_T} {f : Nat → Option Nat} (E : qc_E p m c cc nL s args own y) (hC : qc_C y v t ((q, .inl (qa_c y t0, (N, .inr (.inr (.inr (.inr f)))))) :: ex) s H locs) (hk : qc_off (qa_n y) (qa_m y) k i = q) (ht : (qa_tys y)[t0]? = some (qa_c y t0, .object C)) (hi2 : i2 < qa_pr y k2) (hk2 : qc_off (qa_n y) (qa_m y) k2 i2 = q2) (hq2 : q2 < t) (hx2 : q ≠ q2 ∧ ∀ x ∈ ex, x.1 ≠ q2) (hc : qa_Cl[ci]? = some (C, T, NN)) (hcls : qa_cls k2 = some (ci, NN)) (hx : x = nI j) (hj : j < N) (hN : N ≤ 400) (hdg : decode cc pc = .ok (.aastore, 1))
    (kk : ∀ (H1 : Heap) (locs1 : List Loc), qc_C y v t ((q, .inl (qa_c y t0, (N, .inr (.inr (.inr (.inr (va_up f j (some (qa_a y k2 i2))))))))) :: ex) s H1 locs1 → W p l e R s m args below meth c H1 locs1 cells slots Q (F0 m (pc + 1) ls rest)) : W p l e R s m args below meth c H locs cells slots Q (F0 m pc ls (.ref (qa_a y k2 i2) :: .int x :: .ref (qa_a y k i) :: rest)) := by
  obtain ⟨⟨⟨hex, hb, hml, hown, hts⟩, hK⟩, hX⟩ := E
  subst hx
  have ha : qa_a y k i = qa_a y 0 0 + q := by rw [hX.1 k i, hk]
  rw [ha]
  have h2 := hC.1.2.2 q (hC.1.2.1 _ List.mem_cons_self)
  rw [qc_g_h] at h2
  have hv := hC.1.cell hX.1 hi2 hk2 hq2 (fun x hx => by
    rcases List.mem_cons.mp hx with rfl | hx
    · exact hx2.1
    · exact hx2.2 x hx)
  rw [qa_cell_o hcls] at hv
  have hcl : (nI j).toNatClampNeg = j := nI_clamp (by omega)
  obtain ⟨r', hr', cellV, g1, g2, g3, -⟩ := hv
  have hcls2 := (hK.2.1.1 ci _ hc).2
  obtain ⟨kA, comp, k1, k2', k3, -⟩ := (hK.2.1.2 t0 _ ht).2
  have hcomp : comp = (qa_D y).1 ci := Option.some.inj (k3.symm.trans hcls2.1)
  subst hcomp
  obtain ⟨kC, hkC, -⟩ := hcls2.2
  refine W.aast hex hb h2 (fun q h => by cases h) (fun h => by cases h) k1 k2' rfl hkC ⟨nI_pos (by omega), by show _ < (arrV _ _ _).slots.size; rw [arrV_size, hcl]; exact hj⟩ g1 (fun q h => by rw [g3] at h; cases h) (by rw [g2]; exact hkC) (by rw [g2]; exact va_assign hcls2) rfl rfl hdg fun H1 e z oq => ?_
  refine kk H1 _ ⟨hC.1.put z oq ?_, hC.2.1.put z oq (Nat.le_add_right _ _), hC.2.2⟩
  show H1[qa_a y 0 0 + q]? = some (vp_cell _ _)
  rw [e, vp_cell_q, vp_cell_q, arrV_store, hcl]
  congr 2
  funext j9
  by_cases h9 : j9 = j
  · subst h9
    rw [va_up_self]
    simp [updV, va_rf]
  · rw [va_up_ne _ _ h9]
    simp [updV, h9]
/-- a store into an array of ints that is being made -/
theorem qc_ist {x z : Int32} {N j q : Nat} {f : Nat → Int32} (E : qc_E p m c cc nL s args own y) (hC : qc_C y v t ((q, .inl (qa_c y 0, (N, .inl f))) :: ex) s H locs) (hk : qc_off (qa_n y) (qa_m y) k i = q) (hx : x = nI j) (hj : j < N) (hN : N ≤ 400) (hdg : decode cc pc = .ok (.iastore, 1))
    (kk : ∀ (H1 : Heap) (locs1 : List Loc), qc_C y v t ((q, .inl (qa_c y 0, (N, .inl (upd f j z)))) :: ex) s H1 locs1 → W p l e R s m args below meth c H1 locs1 cells slots Q (F0 m (pc + 1) ls rest)) : W p l e R s m args below meth c H locs cells slots Q (F0 m pc ls (.int z :: .int x :: .ref (qa_a y k i) :: rest)) := by
  obtain ⟨⟨⟨hex, hb, hml, hown, hts⟩, hK⟩, hX⟩ := E
  subst hx
  have ha : qa_a y k i = qa_a y 0 0 + q := by rw [hX.1 k i, hk]
  rw [ha]
  have h2 := hC.1.2.2 q (hC.1.2.1 _ List.mem_cons_self)
  rw [qc_g_h] at h2
  have hcl : (nI j).toNatClampNeg = j := nI_clamp (by omega)
  refine W.iast hex hb h2 ((hK.2.1.2 0 _ rfl).1 N (fun j => .int (f j))) (fun q => by cases q) (by show ¬ (nI j < 0 ∨ (arrV _ _ _).slots.size ≤ _); rw [arrV_size]; exact vp_in_nI hj (show N < 2 ^ 31 by omega)) rfl rfl hdg fun H1 e z1 oq => ?_
  refine kk H1 _ ⟨hC.1.put z1 oq ?_, hC.2.1.put z1 oq (Nat.le_add_right _ _), hC.2.2⟩
  show H1[qa_a y 0 0 + q]? = some (vp_cell _ _)
  rw [e, vp_cell_i, vp_cell_i, arrV_store, hcl]
  congr 2
  funext j9
  by_cases h9 : j9 = j
  · subst h9
    simp [updV, upd]
  · simp [updV, upd, h9]
theorem qc_len {x : Int32} {q : Nat} (E : qc_E p m c cc nL s args own y) (hC : qc_C y v t ex s H locs) (hi : i < qa_pr y k) (hk : qc_off (qa_n y) (qa_m y) k i = q) (hq : q < t) (hx : ∀ x ∈ ex, x.1 ≠ q) (hcls : qa_cls k = none) (hv : nI (qa_ln y k) = x) (hdg : decode cc pc = .ok (.arraylength, 1))
    (kk : W p l e R s m args below meth c H locs cells slots Q (F0 m (pc + 1) ls (.int x :: rest))) : W p l e R s m args below meth c H locs cells slots Q (F0 m pc ls (.ref (qa_a y k i) :: rest)) := by
  obtain ⟨⟨⟨hex, hb, hml, hown, hts⟩, hK⟩, hX⟩ := E
  have hc := hC.1.cell hX.1 hi hk hq hx
  obtain ⟨t0, z, he, ht⟩ := qa_cell_l y v k i hcls
  rw [he] at hc
  have ht4 : ∃ ty, (qa_tys y)[t0]? = some (qa_c y t0, ty) := by
    rcases ht with rfl | ⟨g0, h0⟩
    · exact ⟨.int, rfl⟩
    · exact qa_ref_ty h0
  obtain ⟨ty, hty⟩ := ht4
  have hP : va_P (qa_D y) qa_Cl [(qa_a y k i, .inl (qa_c y t0, (qa_ln y k, z)))] H := fun j z hz => by
    have h0 : j < 1 := (List.getElem?_eq_some_iff.mp hz).1
    rw [show j = 0 by omega] at hz
    cases hz
    exact hc
  exact va_alen hex hb hK.2.1 hP 0 t0 rfl hty hv hdg kk
theorem qc_arrV {c : ClassId} {N : Nat} {f g : Nat → Value} (h : ∀ j, j < N → f j = g j) : arrV c N f = arrV c N g := by
  unfold arrV
  have e : (fun j : Fin N => f j.val) = fun j : Fin N => g j.val := funext fun j => h j.val j.isLt
  rw [e]
/-- the lists of the relay: an array of arrays -/
theorem qc_outer (c : ClassId) (N h0 : Nat) : ∀ i : Nat, Jvm.Free.Multi.outerC c N h0 i = arrV c N (fun j => va_rf (if j < i then some (h0 + 1 + j) else none))
  | 0 => by
    show ({ cls := c, slots := Array.replicate N .null, vm := .none } : Cell) = _
    rw [arrV_new]
    refine congrArg (arrV c N) (funext fun j => ?_)
    simp [va_rf]
  | i + 1 => by
    show (Jvm.Free.Multi.outerC c N h0 i).setSlot i (.ref (h0 + 1 + i)) = _
    rw [qc_outer c N h0 i, arrV_store]
    refine congrArg (arrV c N) (funext fun j => ?_)
    by_cases e : j = i
    · subst e
      simp [updV, va_rf]
    · by_cases h : j < i
      · simp [updV, e, h, Nat.lt_succ_of_lt h]
      · simp [updV, e, h, show ¬ j < i + 1 by omega]
theorem qc_mna {index : Nat} {n0 k0 : Int32} (E : qc_E p m c cc nL s args own y) (hC : qc_C y v t ex s H locs) (hcl : Cond.classLink own index "[[I" ∈ qa_T) (hk : 4 + 6 * qa_n y = t) (hn0 : n0 = nI (qa_m y + 1)) (hk0 : k0 = nI (qa_n y)) (hv : ∀ j, v 11 j = fun _ => 0) (hcells : cells + 4 ≤ R.cells) (hslots : slots + 24 ≤ R.slots) (hdg : decode cc pc = .ok (.multianewarray index 2, 4))
    (kk : ∀ H1 : Heap, qc_C y v (6 + 6 * qa_n y + qa_m y) ex s H1 locs → W p l e R s m args below meth c H1 locs (cells + 4) (slots + 24) Q (F0 m (pc + 4) ls (.ref (qa_a y 10 0) :: rest))) : W p l e R s m args below meth c H locs cells slots Q (F0 m pc ls (.int k0 :: .int n0 :: rest)) := by
  obtain ⟨⟨⟨hex, hb, hml, hown, hts⟩, hK⟩, hX⟩ := E
  have h4 : 4 ≤ qa_n y := hK.1.2.2.1
  have h7 : qa_n y ≤ 7 := hK.1.2.2.2.1
  have hm3 : 3 * qa_m y < qa_n y := hK.1.2.2.2.2.1
  have hm2 : qa_m y = 0 ∨ qa_m y = 1 ∨ qa_m y = 2 := by omega
  have hmul : (qa_m y + 1) * qa_n y ≤ 21 := by
    rcases hm2 with e | e | e <;> rw [e] <;> omega
  subst hn0
  subst hk0
  have hN : (nI (qa_m y + 1)).toNatClampNeg = qa_m y + 1 := nI_clamp (by omega)
  have hM : (nI (qa_n y)).toNatClampNeg = qa_n y := nI_clamp (by omega)
  refine W.widen (k := cells) (n := slots) (Nat.le_refl _) (Nat.le_refl _) ?_
  intro T hT Xs
  obtain ⟨vm₁, cA, comp, -, fA, fC, hO, -, X', step⟩ := Xs.multianewarray2F hex hown (ty := .int) (hts _ hcl) (show (Cond.arrayOver (.array .int)).before args s = true from hX.2.2.2) (hts _ qc_k_int) (g := F0 m pc ls (.int (nI (qa_n y)) :: .int (nI (qa_m y + 1)) :: rest)) rfl (by rw [hb]; exact hdg) rfl (nI_pos (by omega)) (nI_pos (by omega)) (by rw [hN]; omega) (by rw [hM]; exact qc_bytes (by omega)) (by rw [hM]; omega) rfl rfl (by rw [hN]; omega) (by rw [hN, hM]; omega)
  have hcomp : comp = qa_c y 0 := Option.some.inj (fC.symm.trans (hK.2.1.2 0 _ rfl).2)
  subst hcomp
  have hcA : cA = qa_c y 3 := Option.some.inj (fA.symm.trans (hK.2.1.2 3 _ rfl).2)
  subst hcA
  rw [hN, hM] at X' step
  generalize hF : Jvm.Free.Multi.fill (T.setVm vm₁) (qa_c y 3) (qa_c y 0) (qa_m y + 1) (qa_n y) (defaultValue .int) (qa_m y + 1) = F at X' step
  have hTh : (T.setVm vm₁).heap = H := hT
  obtain ⟨f1, f2, -, -⟩ := Jvm.Free.Multi.fill_facts (T.setVm vm₁) (qa_c y 3) (qa_c y 0) (qa_m y + 1) (qa_n y) (defaultValue .int) (qa_m y + 1)
  rw [hF, hTh] at f1 f2
  have hold : ∀ x : Nat, x < H.size → F.heap[x]? = H[x]? := fun x hx => by
    have := Jvm.Free.Multi.fill_old (T.setVm vm₁) (qa_c y 3) (qa_c y 0) (qa_m y + 1) (qa_n y) (defaultValue .int) (a := x) (by rw [hTh]; exact hx) (qa_m y + 1)
    rw [hF, hTh] at this
    exact this
  have hrow : ∀ j : Nat, j < qa_m y + 1 → F.heap[H.size + 1 + j]? = some (arrV (qa_c y 0) (qa_n y) (fun _ => .int 0)) := fun j hj => by
    have := Jvm.Free.Multi.fill_inner (T.setVm vm₁) (qa_c y 3) (qa_c y 0) (qa_m y + 1) (qa_n y) (defaultValue .int) (qa_m y + 1) j hj
    rw [hF, hTh] at this
    rw [this, ← arrV_new]
    rfl
  have hH : H.size = qa_a y 0 0 + (4 + 6 * qa_n y) := by rw [hC.1.1, hk]
  have ha : qa_a y 10 0 = H.size := by rw [hX.1 10 0, hH]; rfl
  have hP1 : qc_P y v (6 + 6 * qa_n y + qa_m y) ex F.heap := by
    refine ⟨by rw [f1, hH]; omega, fun x hx => by have := hC.1.2.1 x hx; omega, fun q hq => ?_⟩
    by_cases h1 : q < t
    · exact (hC.1.2.2 q h1).kept (hold _ (by rw [hC.1.1]; exact Nat.add_lt_add_left h1 _))
    · have hout : qc_g (qc_G y v) ex q = qc_G y v q := qc_g_out (fun x hx => by have := hC.1.2.1 x hx; omega)
      rw [hout]
      by_cases h2 : q = t
      · rw [h2, qc_G_at (k := 10) (i := 0) Nat.one_pos hk]
        show F.heap[qa_a y 0 0 + t]? = some (vp_cell (qa_c y 3) (qa_m y + 1, .inr (.inr (.inr (.inr (fun j => some (qa_a y 11 j)))))))
        rw [← hk, ← hH, f2, qc_outer, vp_cell_q]
        refine congrArg some (qc_arrV (fun j hj => ?_))
        rw [if_pos hj, hX.1 11 j]
        show va_rf (some (H.size + 1 + j)) = va_rf (some (qa_a y 0 0 + (5 + 6 * qa_n y + j)))
        rw [show H.size + 1 + j = qa_a y 0 0 + (5 + 6 * qa_n y + j) by omega]
      · obtain ⟨j, hj, rfl⟩ : ∃ j, j < qa_m y + 1 ∧ q = 5 + 6 * qa_n y + j := ⟨q - (5 + 6 * qa_n y), by omega, by omega⟩
        rw [qc_G_at (k := 11) (i := j) (q := 5 + 6 * qa_n y + j) hj rfl, qa_cell_a rfl rfl, hv j]
        show F.heap[qa_a y 0 0 + (5 + 6 * qa_n y + j)]? = some (arrV (qa_c y 0) (qa_n y) (fun _ => .int 0))
        rw [← hrow j hj, show H.size + 1 + j = qa_a y 0 0 + (5 + 6 * qa_n y + j) by omega]
  have hg := kk F.heap ⟨hP1, ⟨by rw [f1]; have := hC.2.1.1; omega, fun x h1 h2 => (hold x (Nat.lt_of_lt_of_le h1 hC.2.1.1)).trans (hC.2.1.2.1 x h1 h2), hC.2.1.2.2⟩, hC.2.2⟩
  rw [ha] at hg
  have hg2 := W.widen (k := cells + 4) (n := slots + 24) (cells := cells + 1 + (qa_m y + 1)) (slots := slots + (qa_m y + 1) + (qa_m y + 1) * qa_n y) (by omega) (by omega) hg
  obtain ⟨t9, a1, b1⟩ := hg2 F rfl X'
  refine ⟨t9, step t9 ?_, b1⟩
  have e9 : T.heap.size = H.size := by rw [hT]
  rw [e9]
  exact a1
/-- what a call of a constructor wants of the tables -/
def qc_LI (own : String) (index : Nat) (x : MethodName) (bytes : ByteArray) (maxL n : Nat) : Prop :=
  Cond.methodLink own index x ∈ qa_T ∧ Cond.instanceMethod x ∈ qa_T ∧ Cond.initialized x.cls ∈ qa_T ∧ Cond.code x bytes maxL none ∈ qa_T ∧ x.name = "<init>" ∧ (x.cls ≠ "java/lang/invoke/MethodHandle" ∧ x.cls ≠ "java/lang/invoke/VarHandle" ∧ (parseMethodDescriptor x.desc).map (fun d => d.parameters.length) = some n)
def qc_LIN (own : String) (index : Nat) (x : MethodName) (host : String) (bytes : ByteArray) (maxL n : Nat) : Prop :=
  Cond.methodLinkNest own index x host ∈ qa_Nw ∧ Cond.instanceMethod x ∈ qa_T ∧ Cond.initialized x.cls ∈ qa_T ∧ Cond.code x bytes maxL none ∈ qa_T ∧ x.name = "<init>" ∧ (x.cls ≠ "java/lang/invoke/MethodHandle" ∧ x.cls ≠ "java/lang/invoke/VarHandle" ∧ (parseMethodDescriptor x.desc).map (fun d => d.parameters.length) = some n)
variable {x : MethodName} {bytes : ByteArray} {maxL n index lv mc ms t1 : Nat} {ret : Option FieldType} {As st0 : List Value} {ex1 : List (Nat × va_E)}
def qc_fit (R : Room) (cells slots lv maxL mc ms : Nat) : Prop := lv + 1 ≤ R.frames ∧ 8 + (maxL + 11) + 64 * lv ≤ R.locals ∧ cells + mc ≤ R.cells ∧ slots + ms ≤ R.slots
theorem qc_cI {a : Nat} (E : qc_E p m c cc nL s args own y) (hC : qc_C y v t ex s H locs) (hM : qc_Mv l x bytes maxL lv mc ms (.ref a :: As) y v t ex t1 ex1) (L : qc_LI own index x bytes maxL n) (hf : qc_fit R cells slots lv maxL mc ms) (hn : As.length = n) (hz : ls.size = nL) (hst : st0 = As.reverse ++ .ref a :: rest) (hr : (rest.map fun v => v.category).sum ≤ 8) (hdg : decode cc pc = .ok (.invokespecial index, 3))
    (kk : ∀ (H1 : Heap) (locs1 : List Loc), qc_C y v t1 ex1 s H1 locs1 → W p l e R s m args below meth c H1 locs1 (cells + mc) (slots + ms) Q (F0 m (pc + 3) ls rest)) : W p l e R s m args below meth c H locs cells slots Q (F0 m pc ls st0) := by
  have hts := E.1.1.2.2.2.2
  refine va_callv (va_runI (g := F0 m pc ls st0) (As := As) (rest := rest) E.1.1 hM (cwI n hts (qa_goodN L.2.2.2.1) rfl rfl rfl (hts _ L.2.2.1) (hts _ L.1) (hts _ L.2.1) L.2.2.2.2.1 L.2.2.2.2.2 ⟨hf.1, hf.2.1⟩) ⟨qc_blind, fun U hU hW => ⟨rfl, ⟨by rw [hU]; exact hC.1, E.1.2.moved hW, E.2.moved hW.alike⟩, by rw [hU]; exact Nat.le_trans hC.2.2 hC.2.1.1⟩⟩ rfl hn hz hst (lv_room hr) hdg ⟨hf.2.2.1, hf.2.2.2⟩) hC.2.1 (fun q _ h => h) (fun q h => h) (fun u t H1 locs1 ht hvm hp hB hz1 hk1 hS1 => ?_)
  exact kk H1 locs1 ⟨by rw [← ht]; exact hB.1, hS1, hC.2.2⟩
theorem qc_cIN {a : Nat} {host : String} (E : qc_E p m c cc nL s args own y) (hC : qc_C y v t ex s H locs) (hM : qc_Mv l x bytes maxL lv mc ms (.ref a :: As) y v t ex t1 ex1) (L : qc_LIN own index x host bytes maxL n) (hf : qc_fit R cells slots lv maxL mc ms) (hn : As.length = n) (hz : ls.size = nL) (hst : st0 = As.reverse ++ .ref a :: rest) (hr : (rest.map fun v => v.category).sum ≤ 8) (hdg : decode cc pc = .ok (.invokespecial index, 3))
    (kk : ∀ (H1 : Heap) (locs1 : List Loc), qc_C y v t1 ex1 s H1 locs1 → W p l e R s m args below meth c H1 locs1 (cells + mc) (slots + ms) Q (F0 m (pc + 3) ls rest)) : W p l e R s m args below meth c H locs cells slots Q (F0 m pc ls st0) := by
  have hts := E.1.1.2.2.2.2
  refine va_callv (va_runIN (host := host) (g := F0 m pc ls st0) (As := As) (rest := rest) E.1.1 hM ⟨va_cnB (host := host) (Ts := qa_T) (R := R) n hts (qa_goodN L.2.2.2.1) rfl rfl rfl (E.1.2.2.2 _ L.1) (hts _ L.2.2.1) L.2.2.2.2.2 ⟨hf.1, hf.2.1⟩, L.2.2.2.2.1, hts _ L.2.1⟩ ⟨qc_blind, fun U hU hW => ⟨rfl, ⟨by rw [hU]; exact hC.1, E.1.2.moved hW, E.2.moved hW.alike⟩, by rw [hU]; exact Nat.le_trans hC.2.2 hC.2.1.1⟩⟩ rfl hn hz hst (lv_room hr) hdg ⟨hf.2.2.1, hf.2.2.2⟩) hC.2.1 (fun q _ h => h) (fun q h => h) (fun u t H1 locs1 ht hvm hp hB hz1 hk1 hS1 => ?_)
  exact kk H1 locs1 ⟨by rw [← ht]; exact hB.1, hS1, hC.2.2⟩
theorem qc_cR {a : Nat} (E : qc_E p m c cc nL s args own y) (hC : qc_C y v t ex s H locs) (hM : qc_Mr l x bytes maxL ret lv mc ms As y v t ex t1 ex1 a) (L : qa_LS own index x bytes maxL ret n) (hf : qc_fit R cells slots lv maxL mc ms) (hn : As.length = n) (hz : ls.size = nL) (hst : st0 = As.reverse ++ rest) (hr : (rest.map fun v => v.category).sum ≤ 8) (hdg : decode cc pc = .ok (.invokestatic index, 3))
    (kk : ∀ (H1 : Heap) (locs1 : List Loc), qc_C y v t1 ex1 s H1 locs1 → W p l e R s m args below meth c H1 locs1 (cells + mc) (slots + ms) Q (F0 m (pc + 3) ls (.ref a :: rest))) : W p l e R s m args below meth c H locs cells slots Q (F0 m pc ls st0) := by
  have hts := E.1.1.2.2.2.2
  refine va_callr (va_runS (g := F0 m pc ls st0) (As := As) (rest := rest) E.1.1 hM (va_cwS n hts (qa_goodS L) rfl rfl rfl L.2.2.2.2 ⟨hf.1, hf.2.1⟩) ⟨qc_blind, fun U hU hW => ⟨rfl, ⟨by rw [hU]; exact hC.1, E.1.2.moved hW, E.2.moved hW.alike⟩, by rw [hU]; exact Nat.le_trans hC.2.2 hC.2.1.1⟩⟩ rfl hn hz hst (lv_room hr) hdg ⟨hf.2.2.1, hf.2.2.2⟩) hC.2.1 (fun q _ h => h) (fun q h => h) (fun u ra t H1 locs1 ht hvm hp hB hz1 hk1 hS1 => ?_)
  obtain ⟨rfl, hB⟩ := hB
  exact kk H1 locs1 ⟨by rw [← ht]; exact hB.1, hS1, hC.2.2⟩
theorem qc_vret (E : qc_E p m c cc nL s args own y) (hC : qc_C y v t ex s H locs) (hr : meth.sig.returnType = none) (hlocks : meth.locks = false) (h1 : cells ≤ mc) (h2 : slots ≤ ms) (hdg : decode cc pc = .ok (.return_, 1)) : W p l e R s m args below meth c H locs cells slots (MQ below (va_Qv (fun _ : Unit => True) (fun _ U => qc_W y v t ex U) (qc_A y)) args s mc ms (qc_A y)) (F0 m pc ls []) :=
  W.widen h1 h2 (W.vret E.1.1.1 E.1.1.2.1 hr (fun t ht hW => ⟨⟨(), rfl, trivial, by rw [ht]; exact hC.1, E.1.2.moved hW, E.2.moved hW.alike⟩, hC.2.1.F ht⟩) hC.2.1.2.2 hdg)
theorem qc_aret {a : Nat} {rt : FieldType} (E : qc_E p m c cc nL s args own y) (hC : qc_C y v t ex s H locs) (hr : meth.sig.returnType = some rt) (hrt : (∃ n, rt = .object n) ∨ ∃ t, rt = .array t) (hlocks : meth.locks = false) (h1 : cells ≤ mc) (h2 : slots ≤ ms) (hdg : decode cc pc = .ok (.areturn, 1)) : W p l e R s m args below meth c H locs cells slots (MQ below (va_Qr (fun _ : Unit => True) (fun _ b U => b = a ∧ qc_W y v t ex U) (qc_A y)) args s mc ms (qc_A y)) (F0 m pc ls [.ref a]) :=
  W.widen h1 h2 (W.aret E.1.1.1 E.1.1.2.1 hr hrt (Or.inr ⟨a, rfl⟩) (fun t ht hW => ⟨⟨(), a, rfl, trivial, rfl, by rw [ht]; exact hC.1, E.1.2.moved hW, E.2.moved hW.alike⟩, hC.2.1.F ht⟩) hC.2.1.2.2 hdg)
end QC
theorem qc_ofMv {l : Launch} {x : MethodName} {bytes : ByteArray} {maxL lv mc ms t t1 : Nat} {av : List Value} {y : qa_L} {v : qa_M} {ex ex1 : List (Nat × va_E)} (hy : plainFor x = true) (hnm : x.name = "<init>") (hls : (lg_sl av).length ≤ maxL)
    (body : ∀ (p : Program) (e : Env) (s : State) (m : MethodId) (below : List Frame) (meth : Method) (c : Code) (ls : Array Slot), qc_E p m c bytes maxL s av.toArray x.cls y → meth.sig.returnType = none → meth.locks = false → meth.name = "<init>" → qc_C y v t ex s s.heap [] → lv_has ls maxL (lv_args 0 av) → W p l e (qc_R lv mc ms) s m av.toArray below meth c s.heap [] 0 0 (MQ below (va_Qv (fun _ : Unit => True) (fun _ U => qc_W y v t1 ex1 U) (qc_A y)) av.toArray s mc ms (qc_A y)) (F0 m 0 ls [])) : qc_Mv l x bytes maxL lv mc ms av y v t ex t1 ex1 := by
  refine va_MetF (cc := bytes) (maxL := maxL) (ret := none) hy rfl ?_
  intro p e s m args below meth c s₁ B hml hv
  obtain ⟨rfl, hpre, hle⟩ := hv
  have hl := lv_entry av (n := maxL) hls
  rw [lg_entry_eq]
  exact body p e s m below meth c _ ⟨⟨⟨B.exec, B.bytes, hml, findClass_of_methodNamed B.named, fun w hw => atoms_spec (ws := qa_ws x bytes maxL none) B.pre w (List.mem_cons_of_mem _ hw)⟩, hpre.2.1⟩, hpre.2.2⟩ B.returns B.notSynchronized ((name_of_methodNamed B.named B.method).1.trans hnm) ⟨hpre.1, va_S.rf, hle⟩ hl
theorem qc_ofMr {l : Launch} {x : MethodName} {bytes : ByteArray} {maxL lv mc ms t t1 a : Nat} {ret : Option FieldType} {av : List Value} {y : qa_L} {v : qa_M} {ex ex1 : List (Nat × va_E)} (hy : plainFor x = true) (hls : (lg_sl av).length ≤ maxL)
    (body : ∀ (p : Program) (e : Env) (s : State) (m : MethodId) (below : List Frame) (meth : Method) (c : Code) (ls : Array Slot), qc_E p m c bytes maxL s av.toArray x.cls y → meth.sig.returnType = ret → meth.locks = false → qc_C y v t ex s s.heap [] → lv_has ls maxL (lv_args 0 av) → W p l e (qc_R lv mc ms) s m av.toArray below meth c s.heap [] 0 0 (MQ below (va_Qr (fun _ : Unit => True) (fun _ b U => b = a ∧ qc_W y v t1 ex1 U) (qc_A y)) av.toArray s mc ms (qc_A y)) (F0 m 0 ls [])) : qc_Mr l x bytes maxL ret lv mc ms av y v t ex t1 ex1 a := by
  refine va_MetF (cc := bytes) (maxL := maxL) (ret := ret) hy rfl ?_
  intro p e s m args below meth c s₁ B hml hv
  obtain ⟨rfl, hpre, hle⟩ := hv
  have hl := lv_entry av (n := maxL) hls
  rw [lg_entry_eq]
  exact body p e s m below meth c _ ⟨⟨⟨B.exec, B.bytes, hml, findClass_of_methodNamed B.named, fun w hw => atoms_spec (ws := qa_ws x bytes maxL ret) B.pre w (List.mem_cons_of_mem _ hw)⟩, hpre.2.1⟩, hpre.2.2⟩ B.returns B.notSynchronized ⟨hpre.1, va_S.rf, hle⟩ hl
theorem qc_C.cast {y : qa_L} {v : qa_M} {t t1 : Nat} {ex : List (Nat × va_E)} {s : State} {H : Heap} {locs : List Loc} (h : t = t1) (hC : qc_C y v t ex s H locs) : qc_C y v t1 ex s H locs := h ▸ hC
/-- the memory when all is made -/
def qc_v (n : Nat) : qa_M := fun k i f => if (k = 2 ∧ f = 11) ∨ (k = 28 ∧ f < n) then ((1 : Int32) <<< (nI n &&& 31)) - 1 else 0
theorem qc_upk {g : Nat → Nat} {k : Nat} : va_up (fun j => if j < k then some (g j) else none) k (some (g k)) = fun j => if j < k + 1 then some (g j) else none := by
  funext j
  by_cases h : j = k
  · subst h
    rw [va_up_self, if_pos (Nat.lt_succ_self _)]
  · rw [va_up_ne _ _ h]
    by_cases h2 : j < k
    · rw [if_pos h2, if_pos (Nat.lt_succ_of_lt h2)]
    · rw [if_neg h2, if_neg (by omega)]
theorem qc_none {g : Nat → Nat} : (fun _ : Nat => (none : Option Nat)) = fun j => if j < 0 then some (g j) else none := by
  funext j
  rw [if_neg (Nat.not_lt_zero _)]
/-- an array of references that is full -/
theorem qc_full {D : va_G} {a N : Nat} {c : ClassId} {g : Nat → Nat} {H : Heap} (h : va_at D qa_Cl (a, .inl (c, (N, .inr (.inr (.inr (.inr (fun j => if j < N then some (g j) else none))))))) H) : va_at D qa_Cl (a, .inl (c, (N, .inr (.inr (.inr (.inr (fun j => some (g j)))))))) H := by
  have h2 : H[a]? = some (vp_cell c (N, .inr (.inr (.inr (.inr (fun j => if j < N then some (g j) else none)))))) := h
  show H[a]? = some (vp_cell c (N, .inr (.inr (.inr (.inr (fun j => some (g j)))))))
  rw [h2, vp_cell_q, vp_cell_q]
  refine congrArg some (qc_arrV (fun j hj => ?_))
  rw [if_pos hj]
def qc_rw (n : Nat) : Nat → Nat
  | 0 => 1
  | j + 1 => qc_rw n j * n + 1
theorem qc_rw_rows {n m : Nat} (h : m ≤ 2) : qc_rw n m = qa_rows n m := by
  rcases (show m = 0 ∨ m = 1 ∨ m = 2 by omega) with rfl | rfl | rfl
  · rfl
  · show 1 * n + 1 = n + 1
    rw [Nat.one_mul]
  · show (1 * n + 1) * n + 1 = (n + 1) * n + 1
    rw [Nat.one_mul]
theorem qc_v28 {n : Nat} : qc_v n 28 0 = fun f => if f < n then ((1 : Int32) <<< (nI n &&& 31)) - 1 else 0 := by
  funext f
  simp [qc_v]
theorem qc_ifk {x : Int32} {k : Nat} : upd (fun f => if f < k then x else 0) k x = fun f => if f < k + 1 then x else 0 := by
  funext f
  by_cases h : f = k
  · subst h
    simp [upd]
  · by_cases h2 : f < k
    · simp [upd, h, h2, Nat.lt_succ_of_lt h2]
    · simp [upd, h, h2, show ¬ f < k + 1 by omega]
theorem qc_if0 {x : Int32} : (fun _ : Nat => (0 : Int32)) = fun f => if f < 0 then x else 0 := by
  funext f
  rw [if_neg (Nat.not_lt_zero _)]
theorem qc_cl_lo {lo hi z : Int32} (h : ¬ lo ≤ z) (hh : lo.toInt ≤ hi.toInt) : qm_max lo (qm_min hi z) = lo := by
  have h1 := Int32.lt_iff_toInt_lt.mp (Int32.not_le.mp h)
  have e : qm_min hi z = z := if_pos (Int32.lt_iff_toInt_lt.mpr (by omega))
  rw [e]
  exact if_neg (fun q => by have := Int32.lt_iff_toInt_lt.mp q; omega)
theorem qc_cl_hi {lo hi z : Int32} (h : ¬ z ≤ hi) (hh : lo.toInt < hi.toInt) : qm_max lo (qm_min hi z) = hi := by
  have h1 := Int32.lt_iff_toInt_lt.mp (Int32.not_le.mp h)
  have e : qm_min hi z = hi := if_neg (fun q => by have := Int32.lt_iff_toInt_lt.mp q; omega)
  rw [e]
  exact if_pos (Int32.lt_iff_toInt_lt.mpr hh)
theorem qc_cl_in {lo hi z : Int32} (h : lo ≤ z) (h2 : z ≤ hi) : qm_max lo (qm_min hi z) = z := by
  have h1 := Int32.le_iff_toInt_le.mp h
  have h3 := Int32.le_iff_toInt_le.mp h2
  unfold qm_max qm_min
  by_cases q : z < hi
  · rw [if_pos q]
    by_cases q2 : lo < z
    · rw [if_pos q2]
    · rw [if_neg q2]
      have q3 : ¬ lo.toInt < z.toInt := fun w => q2 (Int32.lt_iff_toInt_lt.mpr w)
      exact Int32.toInt_inj.mp (by omega)
  · rw [if_neg q]
    have q3 : ¬ z.toInt < hi.toInt := fun w => q (Int32.lt_iff_toInt_lt.mpr w)
    by_cases q2 : lo < hi
    · rw [if_pos q2]
      exact Int32.toInt_inj.mp (by omega)
    · rw [if_neg q2]
      have q4 : ¬ lo.toInt < hi.toInt := fun w => q2 (Int32.lt_iff_toInt_lt.mpr w)
      exact Int32.toInt_inj.mp (by omega)
theorem qc_m0 {P : Nat → Prop} : ∀ x ∈ ([] : List (Nat × va_E)), P x.1 := fun x hx => by cases hx
theorem qc_mc {P : Nat → Prop} {x0 : Nat × va_E} {r : List (Nat × va_E)} (h : P x0.1) (hr : ∀ x ∈ r, P x.1) : ∀ x ∈ x0 :: r, P x.1 := fun x hx => by
  rcases List.mem_cons.mp hx with rfl | hx
  · exact h
  · exact hr x hx
