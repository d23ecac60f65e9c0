theorem qL_sw (x : Int32) : x = 0 ∨ x = 1 ∨ x = 2 ∨ x = 3 ∨ x = 4 ∨ x = 5 ∨ x = 6 ∨ x = 7 ∨ x = 8 ∨ x = 9 ∨ x = 10 ∨ x = 11 ∨ x = 12 ∨ x = 13 ∨ x = 14 ∨ x = 15 ∨ x = 16 ∨ x = 17 ∨ x = 18 ∨ x = 19 ∨ (x.toInt < 0 ∨ 19 < x.toInt) := by
  by_cases h : x.toInt < 0 ∨ 19 < x.toInt
  · simp only [h, or_true]
  · obtain ⟨k, hk, e⟩ : ∃ k : Nat, k < 20 ∧ x = nI k := ⟨x.toInt.toNat, by omega, Int32.toInt_inj.mp (by rw [nI_toInt (by omega)]; omega)⟩
    subst e
    have key : ∀ k, k < 20 → nI k = 0 ∨ nI k = 1 ∨ nI k = 2 ∨ nI k = 3 ∨ nI k = 4 ∨ nI k = 5 ∨ nI k = 6 ∨ nI k = 7 ∨ nI k = 8 ∨ nI k = 9 ∨ nI k = 10 ∨ nI k = 11 ∨ nI k = 12 ∨ nI k = 13 ∨ nI k = 14 ∨ nI k = 15 ∨ nI k = 16 ∨ nI k = 17 ∨ nI k = 18 ∨ nI k = 19 := by decide +kernel
    rcases key k hk with h | h | h | h | h | h | h | h | h | h | h | h | h | h | h | h | h | h | h | h <;> rw [h] <;> decide
theorem qL_gt {L j : Nat} (hL : L ≤ 2563) (hj : j ≤ 600) : nI L - 5 < nI (3 + 5 * j) ↔ L < 8 + 5 * j := by
  rw [Int32.lt_iff_toInt_lt]
  have e5 : (5 : Int32).toInt = 5 := by decide
  have eL : (nI L).toInt = L := nI_toInt (by omega)
  have ej : (nI (3 + 5 * j)).toInt = ((3 + 5 * j : Nat) : Int) := nI_toInt (by omega)
  rw [qm_sub_i (by omega) (by omega), e5, eL, ej]
  omega
theorem qL_fit {lv maxL : Nat} (h : lv ≤ 20) (h2 : maxL ≤ 20) : qa_fit room_1 600000 7302250 lv maxL := by
  refine ⟨?_, ?_, Nat.le_refl _, Nat.le_refl _⟩
  · show lv + 1 ≤ 2048
    omega
  · show 8 + (maxL + 11) + 64 * lv ≤ 84000
    omega
theorem qL_dims (za zb zd : Int32) : ∃ (n m : Nat) (d : Int32), 4 ≤ n ∧ n ≤ 7 ∧ 3 * m < n ∧ 1 ≤ d.toInt ∧ d.toInt ≤ 200 ∧ qm_max 4 (qm_min 7 za) = nI n ∧ (if qm_wi zb 0 ((nI n - 1) / 3) = true then zb else (nI n - 1) / 3) = nI m ∧ qm_max 1 (qm_min 200 zd) = d := by
  have cl : ∀ (lo hi z : Int32), lo.toInt < hi.toInt → lo.toInt ≤ (qm_max lo (qm_min hi z)).toInt ∧ (qm_max lo (qm_min hi z)).toInt ≤ hi.toInt := fun lo hi z h => by
    by_cases h1 : lo ≤ z
    · by_cases h2 : z ≤ hi
      · rw [qc_cl_in h1 h2]
        exact ⟨Int32.le_iff_toInt_le.mp h1, Int32.le_iff_toInt_le.mp h2⟩
      · rw [qc_cl_hi h2 h]
        omega
    · rw [qc_cl_lo h1 (by omega)]
      omega
  have k4 : (4 : Int32).toInt = 4 := by decide
  have k7 : (7 : Int32).toInt = 7 := by decide
  have k1 : (1 : Int32).toInt = 1 := by decide
  have k200 : (200 : Int32).toInt = 200 := by decide
  have hn := cl 4 7 za (by decide)
  have hd := cl 1 200 zd (by decide)
  rw [k4, k7] at hn
  rw [k1, k200] at hd
  obtain ⟨n, hn4, hn7, en⟩ : ∃ n : Nat, 4 ≤ n ∧ n ≤ 7 ∧ qm_max 4 (qm_min 7 za) = nI n := ⟨(qm_max 4 (qm_min 7 za)).toInt.toNat, by omega, by omega, Int32.toInt_inj.mp (by rw [nI_toInt (by omega)]; omega)⟩
  obtain ⟨q, hq, eq⟩ : ∃ q : Nat, 3 * q < n ∧ (nI n - 1) / 3 = nI q := by
    rcases (show n = 4 ∨ n = 5 ∨ n = 6 ∨ n = 7 by omega) with rfl | rfl | rfl | rfl
    · exact ⟨1, by decide, by decide⟩
    · exact ⟨1, by decide, by decide⟩
    · exact ⟨1, by decide, by decide⟩
    · exact ⟨2, by decide, by decide⟩
  rw [← en] at eq
  obtain ⟨m, hm, em⟩ : ∃ m : Nat, 3 * m < n ∧ (if qm_wi zb 0 ((nI n - 1) / 3) = true then zb else (nI n - 1) / 3) = nI m := by
    rw [← en, eq]
    by_cases h : qm_wi zb 0 (nI q) = true
    · rw [if_pos h]
      obtain ⟨j, hj, e⟩ := qL_wi (by omega) h
      exact ⟨j, by omega, e⟩
    · rw [if_neg h]
      exact ⟨q, hq, rfl⟩
  exact ⟨n, m, _, hn4, hn7, hm, hd.1, hd.2, en, em, rfl⟩
theorem qL_over {s : State} {args : Array Value} {C : String} (h : (Cond.arrayOver (.object C)).before args s = true) : ∃ c : ClassId, ArrOfT s c (.object C) ∧ va_RA s c (.object C) := by
  obtain ⟨comp, c, k, h1, h2, h3, h4, h5⟩ := Cond.arrayOver_spec h
  exact ⟨c, fun n z => ⟨fun q hq => (by cases hq), k, h3, comp, h4⟩, k, comp, h3, h4, h1, h5⟩
theorem qL_overA {s : State} {args : Array Value} (h : (Cond.arrayOver (.array .int)).before args s = true) : ∃ c : ClassId, ArrOfT s c (.array .int) ∧ va_RA s c (.array .int) := by
  obtain ⟨comp, c, k, h1, h2, h3, h4, h5⟩ := arrayOver_specB h
  exact ⟨c, fun n z => ⟨fun q hq => (by cases hq), k, h3, comp, h4⟩, h5⟩
theorem qL_ints {s : State} {args : Array Value} (h : (Cond.arrayClass .int).before args s = true) : ∃ c : ClassId, ArrOfT s c .int ∧ va_RA s c .int := by
  obtain ⟨c, k, comp, h1, h2, h3⟩ := Cond.arrayClass_spec h
  exact ⟨c, fun n z => ⟨fun q hq => (by cases hq), k, h2, comp, h3⟩, h1⟩
def qL_get {α : Type} (a0 a1 a2 a3 a4 a5 : α) (k : Nat) : α := match k with
  | 0 => a0
  | 1 => a1
  | 2 => a2
  | 3 => a3
  | 4 => a4
  | _ => a5
section QLX
variable {p : Program} {l : Launch} {e : Env} {R : Room} {s : State} {m : MethodId} {args : Array Value} {below : List Frame} {meth : Method} {c : Code} {H : Heap} {locs : List Loc} {cells slots : Nat} {Q : State → Prop}
variable {cc : ByteArray} {pc nL : Nat} {ls : Array Slot} {rest : List Value} {own : String} {y : qa_L} {v : qa_M} {A : Nat → Prop} {b L : Nat} {xs : Nat → Int32}
theorem qL_len0 (hx : p.tables.exec = Jvm.exec) (hb : c.code = cc) (hX : va_X b L xs s s.heap) (hbl : b < s.heap.size) (hbA : ¬ A b) (hS : va_S A s.heap H locs) (hdg : decode cc pc = .ok (.arraylength, 1))
    (kk : W p l e R s m args below meth c H locs cells slots Q (F0 m (pc + 1) ls (.int (nI L) :: rest))) : W p l e R s m args below meth c H locs cells slots Q (F0 m pc ls (.ref b :: rest)) := va_slen hx hb hX hbl hbA hS hdg kk
theorem qL_ld {j : Nat} {z : Int32} (hx : p.tables.exec = Jvm.exec) (hb : c.code = cc) (hX : va_X b L xs s s.heap) (hbl : b < s.heap.size) (hbA : ¬ A b) (hS : va_S A s.heap H locs) (hz : z = nI j) (hj : j < L) (hL : L ≤ 2563) (hdg : decode cc pc = .ok (.iaload, 1))
    (kk : W p l e R s m args below meth c H locs cells slots Q (F0 m (pc + 1) ls (.int (xs j) :: rest))) : W p l e R s m args below meth c H locs cells slots Q (F0 m pc ls (.int z :: .ref b :: rest)) := by
  subst hz
  refine va_sld hx hb hX hbl hbA hS (vp_in_nI hj (by omega)) hdg ?_
  rw [nI_clamp (by omega)]
  exact kk
theorem qL_cX {x : MethodName} {bytes : ByteArray} {maxL n index lv : Nat} {ret : Option FieldType} {As st0 : List Value} {r : Int32} (F : CallFix p m c cc nL s args qa_T own) (hX : va_X b L xs s s.heap) (hbl : b < s.heap.size) (hbA : ¬ A b) (hS : va_S A s.heap H locs) (hM : qa_Pu l x bytes maxL ret lv As (fun U => va_X b L xs U U.heap ∧ b < U.heap.size) r) (Lk : qa_LS own index x bytes maxL ret n) (hf : qa_fit R cells slots lv maxL) (hn : As.length = n) (hz : ls.size = nL) (hst : st0 = As.reverse ++ rest) (hr : (rest.map fun v => v.category).sum ≤ 8) (hdg : decode cc pc = .ok (.invokestatic index, 3))
    (kk : W p l e R s m args below meth c H locs cells slots Q (F0 m (pc + 3) ls (.int r :: rest))) : W p l e R s m args below meth c H locs cells slots Q (F0 m pc ls st0) := by
  have run := W.runS (g := F0 m pc ls st0) (below := below) (e := e) (meth := meth) (R := R) (locs := locs) (cells := cells) (slots := slots) (rest := rest) (H := H) F hM (va_cwS n F.2.2.2.2 (qa_goodS Lk) rfl rfl rfl Lk.2.2.2.2 ⟨hf.1, hf.2.1⟩)
    ⟨fun _ U _ _ h => ⟨h.1, va_X.moved (u := U) (Vm.Alike.refl _) h.2.1, h.2.2⟩, fun U hU hW => ⟨rfl, by rw [hU]; exact (hX.moved hW.alike).kept (hS.2.1 b hbl hbA), by rw [hU]; exact Nat.lt_of_lt_of_le hbl hS.1⟩⟩ rfl hn hz hst (lv_room hr) hdg ⟨hf.2.2.1, hf.2.2.2⟩
  exact W.callR run kk
end QLX
set_option maxHeartbeats 4000000 in
theorem c_LW_cell (l : Launch) (b L : Nat) (xs : Nat → Int32) (k : Nat) (hk : k ≤ 2) (hL : L ≤ 2563) : qa_Pu l y_LW_cell b_LW_cell 2 (some .int) 0 [.ref b, .int (nI k)] (fun U => va_X b L xs U U.heap ∧ b < U.heap.size) (if k < L then xs k else 0) := by
  refine qa_ofPu (plainFor_of_name (by decide)) (Nat.le_of_ble_eq_true rfl) ?_
  intro p e s m below meth c ls F hr hlocks hW hl
  have hx := F.1
  have hb := F.2.1
  have hl : lv_has ls 2 [(0, .ref b), (1, .int (nI k))] := hl
  refine lv_iload_n hx hb d_LW_cell_0 rfl (lv_at hl 1 rfl) ?_
  refine lv_aload_n hx hb d_LW_cell_1 rfl (lv_at hl 0 rfl) ?_
  refine qL_len0 (A := fun _ => False) hx hb hW.1 hW.2 (fun h => h) va_S.rf d_LW_cell_2 ?_
  refine lv_icmp_ge hx hb d_LW_cell_3 rfl (fun h3 => ?_) (fun h3 => ?_)
  · refine lv_iconst (v := 0) hx hb d_LW_cell_12 (by decide) ?_
    exact qa_iret hx hb hr hlocks (by rw [if_neg (fun q => nI_ge q (by omega) h3)]) d_LW_cell_13
  · have hlt : k < L := Nat.lt_of_not_le (fun q => h3 (nI_le q (by omega)))
    refine lv_aload_n hx hb d_LW_cell_6 rfl (lv_at hl 0 rfl) ?_
    refine lv_iload_n hx hb d_LW_cell_7 rfl (lv_at hl 1 rfl) ?_
    refine qL_ld (A := fun _ => False) hx hb hW.1 hW.2 (fun h => h) va_S.rf rfl hlt hL d_LW_cell_8 ?_
    refine lv_goto hx hb d_LW_cell_9 rfl ?_
    exact qa_iret hx hb hr hlocks (by rw [if_pos hlt]) d_LW_cell_13
/-! THE CLAIM OUT OF ONE WALK OF THE LAW'S BODY. Your part is whole_start (and what it stands on); all else here is the same for every law, but numbers. -/
def R_law : String := "VotedFramesLaw"
def lw_P (b : Addr) (xs : List Int32) (args : Array Value) (s : State) : Prop := args = #[.ref b] ∧ s.IntsAt b xs ∧ xs.length ≤ 2563 ∧ (Jvm.Cond.and given_1 narrow_1).before args s = true
def lw_Q (_ : Array Value) (s : State) (o : Outcome) (t : State) : Prop := o = .returned (some (.int 1)) ∧ Framed s o t [] 600000 7302250
def lw_Z (below : List Frame) (a : Array Value) (s : State) : State → Prop := fun t => ∃ o, t.status = .running ∧ Ended t below o ∧ lw_Q a s o t
/-- the law's own end, with 1 on the stack, nothing written that was there before, its room as the claim has it -/
theorem lw_ret {p : Program} {l : Launch} {e : Env} {s : State} {m : MethodId} {below : List Frame} {meth : Method} {c : Code} {b : Nat} (hx : p.tables.exec = Jvm.exec) (hb : c.code = code) (hr : meth.sig.returnType = ret) (hlocks : meth.locks = false) {pc : Nat} {H : Heap} {ls : Array Slot} (hdg : decode code pc = .ok (.ireturn, 1)) : W p l e room_1 s m #[Value.ref b] below meth c H [] 600000 7302250 (lw_Z below #[Value.ref b] s) (F0 m pc ls [.int 1]) := by
  intro T hT X
  obtain ⟨fs, hret, hrun, hended, hW, hframe⟩ := X.leave (v := some (.int 1)) (hlocks := hlocks) (fun h => by rw [hr] at h; cases h)
  have hmeth' : T.vm.method? m = some meth := X.method'
  refine ⟨T.setFrames fs, ?_, .returned (some (.int 1)), hrun, hended, rfl, ⟨_, rfl⟩, hW, hframe⟩
  jvm_step X.here [X.here.top, hx, hb, hdg, hmeth', hr, ret, narrow_b1]
  (try refine ⟨rfl, ?_⟩); (try refine ⟨rfl, ?_⟩)
  first | (intro acts; rw [hret _ acts rfl rfl rfl]) | rw [hret _ _ rfl rfl rfl]
  exact Steps.refl _
/-- what holds at the law's entry: the machine, the code, the tables' words (any of lw_tbl by 'hts w (by decide +kernel)'), the script of L ints xs at the cell b, what the Statement gives of the start (any of its parts by flat_of_before) -/
def lw_At (p : Program) (s : State) (m : MethodId) (meth : Method) (c : Code) (b L : Nat) (xs : Nat → Int32) : Prop :=
  p.tables.exec = Jvm.exec ∧ c.code = code ∧ meth.sig.returnType = ret ∧ c.maxLocals = 4 ∧ s.vm.findClass R_law = some m.cls ∧ (∀ w ∈ lw_tbl, w.before #[Value.ref b] s = true) ∧ va_X b L xs s s.heap ∧ b < s.heap.size ∧ meth.locks = false ∧ (Jvm.Cond.and given_1 narrow_1).before #[Value.ref b] s = true
