theorem pg_arr {s : State} {args : Array Value} {ty : FieldType} (h : (Cond.arrayClass ty).before args s = true) : ∃ cA, ArrOfT s cA ty ∧ s.vm.findClass ("[" ++ ty.toString) = some cA := by
  obtain ⟨cA, kA, comp, h1, h2, h3⟩ := Cond.arrayClass_spec h
  exact ⟨cA, fun n z => ⟨fun k h => (by cases h), kA, h2, comp, h3⟩, h1⟩
theorem pg_arrO {s : State} {C : String} (h : va_AO C s) : ∃ cA, ArrOfT s cA (.object C) ∧ va_RA s cA (.object C) := by
  obtain ⟨comp, c, k, h1, h2, h3, h4, h5⟩ := Cond.arrayOver_spec h
  exact ⟨c, fun n z => ⟨fun k h => (by cases h), k, h3, comp, h4⟩, k, comp, h3, h4, h1, h5⟩
theorem pg_nost {l : Launch} (h : l.flags = flags0) : l.stackTraces = false := by
  unfold Launch.stackTraces
  rw [h]
  decide +kernel
theorem pg_strT : ∀ q ∈ pgStr, Cond.stringRef RX2 q.1 q.2 ∈ tables_1 := by
  have h : pgStr.map (fun q => Cond.stringRef RX2 q.1 q.2) = [142, 178, 194, 264, 265, 269, 277, 289, 294, 310, 318, 326, 327, 335, 336, 348, 352, 361, 362, 370, 378, 379, 387, 395, 421].filterMap (fun i => tables_1[i]?) := by decide +kernel
  intro q hq
  have h2 := List.mem_map_of_mem (f := fun q => Cond.stringRef RX2 q.1 q.2) hq
  rw [h] at h2
  obtain ⟨i, -, hi⟩ := List.mem_filterMap.mp h2
  exact List.mem_of_getElem? hi
theorem pg_nwT : ∀ w ∈ pgNw, w ∈ tables_1 := by
  have h : pgNw = [102, 171, 187, 414, 104, 106, 108].filterMap (fun i => tables_1[i]?) := by decide +kernel
  intro w hw
  rw [h] at hw
  obtain ⟨i, -, hi⟩ := List.mem_filterMap.mp hw
  exact List.mem_of_getElem? hi
theorem pg_world {s : State} {b : Nat} (hts : ∀ w ∈ lw_tbl, w.before #[Value.ref b] s = true) (hgv : (Jvm.Cond.and given_1 narrow_1).before #[Value.ref b] s = true) : ∃ (D : va_G) (cD cC cI cZ cL : ClassId), pgE D (pgTys cD cC cI cZ cL) (fun q : Nat => s.heap.size ≤ q) s := by
  have hs := flat_of_before _ hgv
  have ht1 : ∀ w ∈ tables_1, w.before #[Value.ref b] s = true := fun w h => hts w (List.mem_append_right _ h)
  have hwd : ∀ w ∈ pgWd, w.before #[Value.ref b] s = true := fun w h => hts w (List.mem_filter.mp h).1
  obtain ⟨c0, i0, k0⟩ := u_known (C := RX0) (T := TX0) (N := 4) (n := 4) hwd pgX0 (hwd _ q_24)
  obtain ⟨c1, i1, k1⟩ := u_known (C := RX1) (T := TX1) (N := 11) (n := 11) hwd pgX1 (hwd _ q_201)
  obtain ⟨c2, i2, k2⟩ := u_known (C := RX2) (T := TX2) (N := 7) (n := 7) hwd pgX2 (hwd _ q_13)
  obtain ⟨c3, i3, k3⟩ := u_known (C := RX3) (T := TX3) (N := 19) (n := 19) hwd pgX3 (hwd _ q_500)
  have hD : va_AO RX1 s := va_AO.of (ht1 (.arrayOver (.object RX1)) (List.mem_of_getElem? (i := 21) (by decide +kernel)))
  have hC : va_AO RX0 s := va_AO.of (ht1 (.arrayOver (.object RX0)) (List.mem_of_getElem? (i := 23) (by decide +kernel)))
  obtain ⟨cD, aD, rD⟩ := pg_arrO hD
  obtain ⟨cC, aC, rC⟩ := pg_arrO hC
  obtain ⟨cI, aI, rI⟩ := pg_arr (ht1 (.arrayClass .int) (List.mem_of_getElem? (i := 563) (by decide +kernel)))
  obtain ⟨cZ, aZ, rZ⟩ := pg_arr (ht1 (.arrayClass .boolean) (List.mem_of_getElem? (i := 564) (by decide +kernel)))
  obtain ⟨cL, aL, rL⟩ := pg_arr (ht1 (.arrayClass .long) (List.mem_of_getElem? (i := 722) (by decide +kernel)))
  refine ⟨(fun k => if k = 0 then c0 else if k = 1 then c1 else if k = 2 then c2 else c3, fun k => if k = 0 then i0 else if k = 1 then i1 else if k = 2 then i2 else i3), cD, cC, cI, cZ, cL, ⟨?_, ?_⟩, ⟨?_, ?_⟩, ?_, ?_, ⟨?_, hD, hC⟩, fun q h => h⟩
  · intro k q hq
    match k, hq with
    | 0, hq => cases hq; exact k0
    | 1, hq => cases hq; exact k1
    | 2, hq => cases hq; exact k2
    | 3, hq => cases hq; exact k3
    | k + 4, hq => simp [vwCl] at hq
  · intro k q hq
    match k, hq with
    | 0, hq => cases hq; exact ⟨aD, rD⟩
    | 1, hq => cases hq; exact ⟨aC, rC⟩
    | 2, hq => cases hq; exact ⟨aI, rI⟩
    | 3, hq => cases hq; exact ⟨aZ, rZ⟩
    | 4, hq => cases hq; exact ⟨aL, rL⟩
    | k + 5, hq => simp [pgTys] at hq
  · exact vx_Zqof (ht1 _ (List.mem_of_getElem? (i := 127) (by decide +kernel))) (hwd _ q_4) (hs _ (by decide +kernel)) (fun a ha => Nat.not_le.mpr ha)
  · exact vx_Zqof (ht1 _ (List.mem_of_getElem? (i := 129) (by decide +kernel))) (hwd _ q_4) (hs _ (by decide +kernel)) (fun a ha => Nat.not_le.mpr ha)
  · intro q hq
    have hw := ht1 _ (pg_strT q hq)
    obtain ⟨-, -, -, sa, -, -, -, -, -, hev⟩ := Cond.stringRef_spec k2.2.1 hw
    exact ⟨sa, vk_R.of hw hev⟩
  · intro w hw
    have hon : w.onTables = true := by
      have h9 := hw
      simp only [pgNw, List.mem_cons, List.not_mem_nil, or_false] at h9
      rcases h9 with rfl | rfl | rfl | rfl | rfl | rfl | rfl <;> rfl
    exact va_tabs hon rfl (ht1 w (pg_nwT w hw))
  · intro q hq
    simp only [pgNC, List.mem_cons, List.not_mem_nil, or_false] at hq
    rcases hq with rfl | rfl | rfl | rfl
    · exact va_Nc.of (hs (.not (.castable pgEA pgEI)) (by decide +kernel))
    · exact va_Nc.of (hs (.not (.castable pgES pgEI)) (by decide +kernel))
    · exact va_Nc.of (hs (.not (.castable pgES pgEA)) (by decide +kernel))
    · exact va_Nc.of (hs (.not (.castable pgEN pgEI)) (by decide +kernel))
/-- from the entry, for every script of at most 2048 ints, the law comes to its end with true -/
theorem whole_start {p : Program} {e : Env} {s : State} {m : MethodId} {below : List Frame} {meth : Method} {c : Code} (l : Launch) (hflags : l.flags = flags0) {b L : Nat} {xs : Nat → Int32} (hL : L ≤ 2048) (C0 : lw_At p s m meth c b L xs) : W p l e room_1 s m #[Value.ref b] below meth c s.heap [] 0 0 (lw_Z below #[Value.ref b] s) (entryFrame m ([Value.ref b] : List Value).toArray 7) := by
  obtain ⟨hx, hb, hr, hml, hown, hts, hX, hbl, hlocks, hgv⟩ := C0
  obtain ⟨D, cD, cC, cI, cZ, cL, hE⟩ := pg_world hts hgv
  have B : pgB p m c s #[Value.ref b] meth RL cL_law 7 D (pgTys cD cC cI cZ cL) (fun q : Nat => s.heap.size ≤ q) := ⟨hx, hb, hml, hown, fun w h => hts w (List.mem_filter.mp h).1, hlocks, hE⟩
  rw [lg_entry_eq]
  exact law_body (pg_nost hflags) B hr hX hbl (Nat.not_le.mpr hbl) hL s.heap [] _ va_S.rf trivial (lv_entry [Value.ref b] (Nat.le_of_ble_eq_true rfl))
