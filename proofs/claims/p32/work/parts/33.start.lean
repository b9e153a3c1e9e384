def R_law : String := "ShredrollLaw"
def lw_P (b : Addr) (xs : List Int32) (args : Array Value) (s : State) : Prop := args = #[.ref b] ∧ s.IntsAt b xs ∧ xs.length ≤ 260 ∧ (Jvm.Cond.and given_1 narrow_1).before args s = true
def lw_Q (_ : Array Value) (s : State) (o : Outcome) (t : State) : Prop := o = .returned (some (.int 1)) ∧ Framed s o t [] 600130 7301080
def lw_Z (below : List Frame) (a : Array Value) (s : State) : State → Prop := fun t => ∃ o, t.status = .running ∧ Ended t below o ∧ lw_Q a s o t
/-- the law's own end, with 1 on the stack, nothing written that was there before, its room as the claim has it -/
theorem lw_ret {p : Program} {l : Launch} {e : Env} {s : State} {m : MethodId} {below : List Frame} {meth : Method} {c : Code} {b : Nat} (hx : p.tables.exec = Jvm.exec) (hb : c.code = code) (hr : meth.sig.returnType = ret) (hlocks : meth.locks = false) {pc : Nat} {H : Heap} {ls : Array Slot} (hdg : decode code pc = .ok (.ireturn, 1)) : W p l e room_1 s m #[Value.ref b] below meth c H [] 600130 7301080 (lw_Z below #[Value.ref b] s) (F0 m pc ls [.int 1]) := by
  intro T hT X
  obtain ⟨fs, hret, hrun, hended, hW, hframe⟩ := X.leave (v := some (.int 1)) (hlocks := hlocks) (fun h => by rw [hr] at h; cases h)
  have hmeth' : T.vm.method? m = some meth := X.method'
  refine ⟨T.setFrames fs, ?_, .returned (some (.int 1)), hrun, hended, rfl, ⟨_, rfl⟩, hW, hframe⟩
  jvm_step X.here [X.here.top, hx, hb, hdg, hmeth', hr, ret, narrow_b1]
  (try refine ⟨rfl, ?_⟩); (try refine ⟨rfl, ?_⟩)
  first | (intro acts; rw [hret _ acts rfl rfl rfl]) | rw [hret _ _ rfl rfl rfl]
  exact Steps.refl _
/-- what holds at the law's entry: the machine, the code, the tables' words (any of lw_tbl by 'hts w (by decide +kernel)'), the script of L ints xs at the cell b, what the Statement gives of the start (any of its parts by flat_of_before) -/
def lw_At (p : Program) (s : State) (m : MethodId) (meth : Method) (c : Code) (b L : Nat) (xs : Nat → Int32) : Prop :=
  p.tables.exec = Jvm.exec ∧ c.code = code ∧ meth.sig.returnType = ret ∧ c.maxLocals = 1 ∧ s.vm.findClass R_law = some m.cls ∧ (∀ w ∈ lw_tbl, w.before #[Value.ref b] s = true) ∧ va_X b L xs s s.heap ∧ b < s.heap.size ∧ meth.locks = false ∧ (Jvm.Cond.and given_1 narrow_1).before #[Value.ref b] s = true
theorem j_lawEnd {p : Program} {l : Launch} {e : Env} {s : State} {m : MethodId} {below : List Frame} {meth : Method} {c : Code} {D : va_G} {tys : List (ClassId × FieldType)} {b : Nat} {Wd : Heap → Prop} {cells slots pc : Nat} {L : List (Nat × Value)} (B : pgB p m c s #[Value.ref b] meth RL cL_law 1 D tys (fun q : Nat => s.heap.size ≤ q)) (hr : meth.sig.returnType = ret) (hc : cells ≤ 600130) (hs : slots ≤ 7301080) (hdg : decode cL_law pc = .ok (.ireturn, 1)) : pgJ p l e room_1 s m #[Value.ref b] below meth c 1 (fun q : Nat => s.heap.size ≤ q) Wd cells slots (lw_Z below #[Value.ref b] s) pc L [.int 1] := fun H locs ls hS _ _ => va_forget hS.2.2 (W.widen hc hs (lw_ret B.1 B.2.1 hr B.2.2.2.2.2.1 hdg))
set_option maxHeartbeats 4000000 in
set_option maxRecDepth 100000 in
/-- the law's body: three books -/
theorem law_body {p : Program} {l : Launch} {e : Env} {s : State} {m : MethodId} {below : List Frame} {meth : Method} {c : Code} {D : va_G} {cD cC cI cZ cL : ClassId} {b L0 : Nat} {xs : Nat → Int32} (hl : l.stackTraces = false) (B : pgB p m c s #[Value.ref b] meth RL cL_law 1 D (pgTys cD cC cI cZ cL) (fun q : Nat => s.heap.size ≤ q)) (hr : meth.sig.returnType = ret) (hX : va_X b L0 xs s s.heap) (hbl : b < s.heap.size) (hbA : ¬ (fun q : Nat => s.heap.size ≤ q) b) (hL : L0 ≤ 260) : pgJ p l e room_1 s m #[Value.ref b] below meth c 1 (fun q : Nat => s.heap.size ≤ q) (fun _ => True) 0 0 (lw_Z below #[Value.ref b] s) 0 (lv_args 0 [.ref b]) [] := by
  refine j_aload_n B dL_law_0 0 rfl rfl ?_
  refine j_iconst B (v := 0) dL_law_1 (by decide) ?_
  refine j_lawS B (WdP := fun (_ : Unit) (_ : Heap) => True) hX hbl hbA 2 [.ref b, .int (nI 0)] (c_L_book l hl D cD cC cI cZ cL (fun q : Nat => s.heap.size ≤ q) b L0 xs hbA hL 0 (by omega)) q_11 q_12 q_0 q_13 hdL_book rfl ⟨Nat.le_of_ble_eq_true rfl, Nat.le_of_ble_eq_true rfl⟩ (Nat.le_of_ble_eq_true rfl) dL_law_2 rfl 117689 706340 ⟨Nat.le_of_ble_eq_true rfl, Nat.le_of_ble_eq_true rfl⟩ ⟨Nat.le_of_ble_eq_true rfl, Nat.le_of_ble_eq_true rfl⟩ (fun r0 _ h0 => ?_)
  rw [h0]
  refine j_if_eq B 32 dL_law_5 (by decide) (fun h => absurd h (by decide)) (fun _ => ?_)
  refine j_aload_n B dL_law_8 0 rfl rfl ?_
  refine j_sipush B (v := 215) dL_law_9 (by decide) ?_
  refine j_lawS B (WdP := fun (_ : Unit) (_ : Heap) => True) hX hbl hbA 2 [.ref b, .int (nI 215)] (c_L_book l hl D cD cC cI cZ cL (fun q : Nat => s.heap.size ≤ q) b L0 xs hbA hL 215 (by omega)) q_11 q_12 q_0 q_13 hdL_book rfl ⟨Nat.le_of_ble_eq_true rfl, Nat.le_of_ble_eq_true rfl⟩ (Nat.le_of_ble_eq_true rfl) dL_law_12 rfl 235378 1412680 ⟨Nat.le_of_ble_eq_true rfl, Nat.le_of_ble_eq_true rfl⟩ ⟨Nat.le_of_ble_eq_true rfl, Nat.le_of_ble_eq_true rfl⟩ (fun r1 _ h1 => ?_)
  rw [h1]
  refine j_if_eq B 32 dL_law_15 (by decide) (fun h => absurd h (by decide)) (fun _ => ?_)
  refine j_aload_n B dL_law_18 0 rfl rfl ?_
  refine j_sipush B (v := 430) dL_law_19 (by decide) ?_
  refine j_lawS B (WdP := fun (_ : Unit) (_ : Heap) => True) hX hbl hbA 2 [.ref b, .int (nI 430)] (c_L_book l hl D cD cC cI cZ cL (fun q : Nat => s.heap.size ≤ q) b L0 xs hbA hL 430 (by omega)) q_11 q_12 q_0 q_13 hdL_book rfl ⟨Nat.le_of_ble_eq_true rfl, Nat.le_of_ble_eq_true rfl⟩ (Nat.le_of_ble_eq_true rfl) dL_law_22 rfl 353067 2119020 ⟨Nat.le_of_ble_eq_true rfl, Nat.le_of_ble_eq_true rfl⟩ ⟨Nat.le_of_ble_eq_true rfl, Nat.le_of_ble_eq_true rfl⟩ (fun r2 _ h2 => ?_)
  rw [h2]
  refine j_if_eq B 32 dL_law_25 (by decide) (fun h => absurd h (by decide)) (fun _ => ?_)
  refine j_iconst B (v := 1) dL_law_28 (by decide) ?_
  refine j_goto B 33 dL_law_29 (by decide) ?_
  exact j_lawEnd B hr (Nat.le_of_ble_eq_true rfl) (Nat.le_of_ble_eq_true rfl) dL_law_33
theorem pg_arr {s : State} {args : Array Value} {ty : FieldType} (h : (Cond.arrayClass ty).before args s = true) : ∃ cA, ArrOfT s cA ty ∧ s.vm.findClass ("[" ++ ty.toString) = some cA := by
  obtain ⟨cA, kA, comp, h1, h2, h3⟩ := Cond.arrayClass_spec h
  exact ⟨cA, fun n z => ⟨fun k h => (by cases h), kA, h2, comp, h3⟩, h1⟩
theorem pg_arrO {s : State} {C : String} (h : va_AO C s) : ∃ cA, ArrOfT s cA (.object C) ∧ va_RA s cA (.object C) := by
  obtain ⟨comp, c, k, h1, h2, h3, h4, h5⟩ := Cond.arrayOver_spec h
  exact ⟨c, fun n z => ⟨fun k h => (by cases h), k, h3, comp, h4⟩, k, comp, h3, h4, h1, h5⟩
theorem pg_nost {l : Launch} (h : l.flags = flags0) : l.stackTraces = false := by
  unfold Launch.stackTraces
  rw [h]
  decide +kernel
theorem pg_strT : ∀ q ∈ pgStr, Cond.stringRef RX2 q.1 q.2 ∈ tables_1 := by
  have h : pgStr.map (fun q => Cond.stringRef RX2 q.1 q.2) = [128, 166, 182, 249, 315, 319, 324, 304, 333, 342, 387, 392, 393, 398, 399, 347, 351, 360, 361, 366, 371, 372, 377, 382, 422].filterMap (fun i => tables_1[i]?) := by decide +kernel
  intro q hq
  have h2 := List.mem_map_of_mem (f := fun q => Cond.stringRef RX2 q.1 q.2) hq
  rw [h] at h2
  obtain ⟨i, -, hi⟩ := List.mem_filterMap.mp h2
  exact List.mem_of_getElem? hi
theorem pg_nwT : ∀ w ∈ pgNw, w ∈ tables_1 := by
  have h : pgNw = [88, 159, 175, 415, 90, 92, 94].filterMap (fun i => tables_1[i]?) := by decide +kernel
  intro w hw
  rw [h] at hw
  obtain ⟨i, -, hi⟩ := List.mem_filterMap.mp hw
  exact List.mem_of_getElem? hi
theorem pg_world {s : State} {b : Nat} (hts : ∀ w ∈ lw_tbl, w.before #[Value.ref b] s = true) (hgv : (Jvm.Cond.and given_1 narrow_1).before #[Value.ref b] s = true) : ∃ (D : va_G) (cD cC cI cZ cL : ClassId), pgE D (pgTys cD cC cI cZ cL) (fun q : Nat => s.heap.size ≤ q) s := by
  have hs := flat_of_before _ hgv
  have ht1 : ∀ w ∈ tables_1, w.before #[Value.ref b] s = true := fun w h => hts w (List.mem_append_right _ h)
  have hwd : ∀ w ∈ pgWd, w.before #[Value.ref b] s = true := fun w h => hts w (List.mem_filter.mp h).1
  obtain ⟨c0, i0, k0⟩ := u_known (C := RX0) (T := TX0) (N := 4) (n := 4) hwd pgX0 (hwd _ q_26)
  obtain ⟨c1, i1, k1⟩ := u_known (C := RX1) (T := TX1) (N := 11) (n := 11) hwd pgX1 (hwd _ q_189)
  obtain ⟨c2, i2, k2⟩ := u_known (C := RX2) (T := TX2) (N := 7) (n := 7) hwd pgX2 (hwd _ q_15)
  have hD : va_AO RX1 s := va_AO.of (ht1 (.arrayOver (.object RX1)) (List.mem_of_getElem? (i := 23) (by decide +kernel)))
  have hC : va_AO RX0 s := va_AO.of (ht1 (.arrayOver (.object RX0)) (List.mem_of_getElem? (i := 25) (by decide +kernel)))
  obtain ⟨cD, aD, rD⟩ := pg_arrO hD
  obtain ⟨cC, aC, rC⟩ := pg_arrO hC
  obtain ⟨cI, aI, rI⟩ := pg_arr (ht1 (.arrayClass .int) (List.mem_of_getElem? (i := 154) (by decide +kernel)))
  obtain ⟨cL, aL, rL⟩ := pg_arr (ht1 (.arrayClass .long) (List.mem_of_getElem? (i := 155) (by decide +kernel)))
  refine ⟨(fun k => if k = 0 then c0 else if k = 1 then c1 else c2, fun k => if k = 0 then i0 else if k = 1 then i1 else i2), cD, cC, cI, cI, cL, ⟨?_, ?_⟩, ⟨?_, ?_⟩, ?_, ?_, ⟨?_, hD, hC⟩, fun q h => h⟩
  · intro k q hq
    match k, hq with
    | 0, hq => cases hq; exact k0
    | 1, hq => cases hq; exact k1
    | 2, hq => cases hq; exact k2
    | k + 3, hq => simp [vwCl] at hq
  · intro k q hq
    match k, hq with
    | 0, hq => cases hq; exact ⟨aD, rD⟩
    | 1, hq => cases hq; exact ⟨aC, rC⟩
    | 2, hq => cases hq; exact ⟨aI, rI⟩
    | 3, hq => cases hq; exact ⟨aL, rL⟩
    | k + 4, hq => simp [pgTys] at hq
  · exact vx_Zqof (ht1 _ (List.mem_of_getElem? (i := 113) (by decide +kernel))) (hwd _ q_3) (hs _ (by decide +kernel)) (fun a ha => Nat.not_le.mpr ha)
  · exact vx_Zqof (ht1 _ (List.mem_of_getElem? (i := 115) (by decide +kernel))) (hwd _ q_3) (hs _ (by decide +kernel)) (fun a ha => Nat.not_le.mpr ha)
  · intro q hq
    have hw := ht1 _ (pg_strT q hq)
    obtain ⟨-, -, -, sa, -, -, -, -, -, hev⟩ := Cond.stringRef_spec k2.2.1 hw
    exact ⟨sa, vk_R.of hw hev⟩
  · intro w hw
    have hon : w.onTables = true := by
      have h9 := hw
      simp only [pgNw, List.mem_cons, List.not_mem_nil, or_false] at h9
      rcases h9 with rfl | rfl | rfl | rfl | rfl | rfl | rfl <;> rfl
    exact va_tabs hon rfl (ht1 w (pg_nwT w hw))
  · intro q hq
    simp only [pgNC, List.mem_cons, List.not_mem_nil, or_false] at hq
    rcases hq with rfl | rfl | rfl
    · exact va_Nc.of (hs (.not (.castable pgEA pgES)) (by decide +kernel))
    · exact va_Nc.of (hs (.not (.castable pgEN pgES)) (by decide +kernel))
    · exact va_Nc.of (hs (.not (.castable pgEN pgEA)) (by decide +kernel))
/-- from the entry, for every script of at most 260 ints, the law comes to its end with true -/
theorem whole_start {p : Program} {e : Env} {s : State} {m : MethodId} {below : List Frame} {meth : Method} {c : Code} (l : Launch) (hflags : l.flags = flags0) {b L : Nat} {xs : Nat → Int32} (hL : L ≤ 260) (C0 : lw_At p s m meth c b L xs) : W p l e room_1 s m #[Value.ref b] below meth c s.heap [] 0 0 (lw_Z below #[Value.ref b] s) (entryFrame m ([Value.ref b] : List Value).toArray 1) := by
  obtain ⟨hx, hb, hr, hml, hown, hts, hX, hbl, hlocks, hgv⟩ := C0
  obtain ⟨D, cD, cC, cI, cZ, cL, hE⟩ := pg_world hts hgv
  have B : pgB p m c s #[Value.ref b] meth RL cL_law 1 D (pgTys cD cC cI cZ cL) (fun q : Nat => s.heap.size ≤ q) := ⟨hx, hb, hml, hown, fun w h => hts w (List.mem_filter.mp h).1, hlocks, hE⟩
  rw [lg_entry_eq]
  exact law_body (pg_nost hflags) B hr hX hbl (Nat.not_le.mpr hbl) hL s.heap [] _ va_S.rf trivial (lv_entry [Value.ref b] (Nat.le_of_ble_eq_true rfl))
