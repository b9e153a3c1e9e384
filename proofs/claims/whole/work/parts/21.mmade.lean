/-- the reference's fields with the first r arrays in place -/
def pgMz (md : Nat → Nat) (r : Nat) : List Value := [.int 0, if 0 < r then .ref (md 1) else .null, if 1 < r then .ref (md 2) else .null, if 2 < r then .ref (md 3) else .null, if 3 < r then .ref (md 4) else .null, if 4 < r then .ref (md 5) else .null, if 5 < r then .ref (md 6) else .null, if 6 < r then .ref (md 7) else .null, if 7 < r then .ref (md 8) else .null, if 8 < r then .ref (md 9) else .null, if 9 < r then .ref (md 10) else .null, if 10 < r then .ref (md 11) else .null, if 11 < r then .ref (md 12) else .null, if 12 < r then .ref (md 13) else .null, .int 0, .int 0, .int 0, .int 0, .int 0]
abbrev pgZ0 : pgSt := fun _ _ => 0
def pgM0 (D : va_G) (cI cZ : ClassId) (A : Nat → Prop) (md : Nat → Nat) (r : Nat) (H : Heap) : Prop :=
  va_at D vwCl (md 0, .inr (3, pgMz md r)) H ∧ (∀ k, 0 < k → k ≤ r → va_at D vwCl (md k, .inl (pgMa cI cZ pgZ0 (fun _ => 0) k)) H) ∧ (∀ a b, a ≤ r → b ≤ r → md a = md b → a = b) ∧ (∀ k, k ≤ r → A (md k))
section PGM0
variable {D : va_G} {cI cZ : ClassId} {A : Nat → Prop} {md : Nat → Nat} {r q : Nat} {H H1 : Heap} {x : va_E}
theorem pgM0.lt (h : pgM0 D cI cZ A md r H) : ∀ k, k ≤ r → md k < H.size := by
  intro k hk
  rcases Nat.eq_zero_or_pos k with z | z
  · subst z; exact h.1.lt
  · exact (h.2.1 k z hk).lt
theorem pgM0.kept (h : pgM0 D cI cZ A md r H) (hq : ∀ k, k ≤ r → H1[md k]? = H[md k]?) : pgM0 D cI cZ A md r H1 := ⟨h.1.kept (hq 0 (by omega)), fun k h0 hk => (h.2.1 k h0 hk).kept (hq k hk), h.2.2⟩
theorem pgFresh_M0 (h : pgFresh D (pgM0 D cI cZ A md r) q x H) : pgM0 D cI cZ A md r H ∧ va_at D vwCl (q, x) H ∧ ∀ k, k ≤ r → md k ≠ q := by
  obtain ⟨H0, h0, e0, -, ho, hx⟩ := h
  refine ⟨h0.kept (fun k hk => ho _ (by have := h0.lt k hk; omega)), hx, fun k hk => ?_⟩
  have := h0.lt k hk
  omega
theorem pgMz_set (hr : r < 13) (hne : ∀ k, k ≤ r → md k ≠ q) : (pgMz md r).set (r + 1) (.ref q) = pgMz (va_up md (r + 1) q) (r + 1) := by
  rcases (show r = 0 ∨ r = 1 ∨ r = 2 ∨ r = 3 ∨ r = 4 ∨ r = 5 ∨ r = 6 ∨ r = 7 ∨ r = 8 ∨ r = 9 ∨ r = 10 ∨ r = 11 ∨ r = 12 by omega) with rfl | rfl | rfl | rfl | rfl | rfl | rfl | rfl | rfl | rfl | rfl | rfl | rfl <;> rfl
theorem pgM0.push (h : pgM0 D cI cZ A md r H) (hr : r < 13) (hq : va_at D vwCl (q, .inl (pgMa cI cZ pgZ0 (fun _ => 0) (r + 1))) H) (hne : ∀ k, k ≤ r → md k ≠ q) (hA : A q) (hc : va_at D vwCl (md 0, .inr (3, (pgMz md r).set (r + 1) (.ref q))) H1) (ho : ∀ z : Nat, z ≠ md 0 → H1[z]? = H[z]?) : pgM0 D cI cZ A (va_up md (r + 1) q) (r + 1) H1 := by
  have old : ∀ k, k ≤ r → va_up md (r + 1) q k = md k := fun k hk => va_up_ne _ _ (by omega)
  have new : va_up md (r + 1) q (r + 1) = q := va_up_self _ _ _
  refine ⟨?_, fun k h0 hk => ?_, fun a b ha hb hab => ?_, fun k hk => ?_⟩
  · rw [old 0 (by omega), ← pgMz_set hr hne]
    exact hc
  · by_cases e : k = r + 1
    · subst e
      rw [new]
      exact hq.kept (ho q (fun z => hne 0 (by omega) z.symm))
    · rw [old k (by omega)]
      exact (h.2.1 k h0 (by omega)).kept (ho _ (fun z => by have := h.2.2.1 k 0 (by omega) (by omega) z; omega))
  · by_cases ea : a = r + 1 <;> by_cases eb : b = r + 1
    · omega
    · rw [ea, new, old b (by omega)] at hab
      exact absurd hab.symm (hne b (by omega))
    · rw [eb, new, old a (by omega)] at hab
      exact absurd hab (hne a (by omega))
    · rw [old a (by omega), old b (by omega)] at hab
      exact h.2.2.1 a b (by omega) (by omega) hab
  · by_cases e : k = r + 1
    · rw [e, new]; exact hA
    · rw [old k (by omega)]; exact h.2.2.2 k (by omega)
/-- the state while the seals are filled -/
def pgSi (i : Nat) : pgSt := fun t j => if t = 11 ∧ j < i then -1 else 0
theorem pgM0.done (h : pgM0 D cI cZ A md 13 H) : pgM D cI cZ A (pgSi 0) (fun _ => 0) 0 md H := by
  refine ⟨fun k hk => ?_, fun a b ha hb => h.2.2.1 a b (by omega) (by omega), fun k hk => h.2.2.2 k (by omega)⟩
  have e0 : pgSi 0 = pgZ0 := by
    funext t j
    simp [pgSi]
  rw [e0]
  by_cases z : k = 0
  · subst z; exact h.1
  · have e1 : pgMo cI cZ pgZ0 (fun _ => 0) 0 md k = .inl (pgMa cI cZ pgZ0 (fun _ => 0) k) := by
      unfold pgMo
      rw [if_neg z]
    rw [e1]
    exact h.2.1 k (by omega) (by omega)
theorem pgSi_up {i : Nat} : pgU (pgSi i) 11 i (-1) = pgSi (i + 1) := by
  funext t j
  simp only [pgU, pgSi]
  grind
theorem pgSi_10 : pgSi 10 = pgS0 := rfl
end PGM0
/-- aload_0; bipush n; newarray; putfield: one more array -/
theorem j_marr {p : Program} {l : Launch} {e : Env} {R : Room} {s : State} {m : MethodId} {args : Array Value} {below : List Frame} {meth : Method} {c : Code} {cc : ByteArray} {D : va_G} {tys : List (ClassId × FieldType)} {A : Nat → Prop} {cells slots : Nat} {Q : State → Prop} {pc : Nat} {cI cZ cA : ClassId} {md : Nat → Nat} {r q N idx : Nat} {nn : Int} {n : Int32} {atype : ArrayType} {ty : FieldType} (B : pgB p m c s args meth RX3 cc 2 D tys A) (hin2 : meth.name = "<init>") (h0 : md 0 = q) (hr : r < 13) (hpa : pgMa cI cZ pgZ0 (fun _ => 0) (r + 1) = (cA, N, .inl (fun _ => 0)))
    (d0 : decode cc pc = .ok (.aload_n 0, 1)) (d1 : decode cc (pc + 1) = .ok (.bipush nn, 2)) (hn : (Int8.ofInt nn).toInt32 = n) (d3 : decode cc (pc + 3) = .ok (.newarray atype, 2)) (hty : newarray.typeOf atype = ty) (hdef : defaultValue ty = .int 0) (q1 : Cond.arrayClass ty ∈ pgWd) (t0 : Nat) (ht : tys[t0]? = some (cA, ty)) (hra : va_RA s cA ty → s.vm.findClass ("[" ++ ty.toString) = some cA) (hn0 : ¬ n < 0) (hN : n.toNatClampNeg = N) (hb4 : N * componentBytes ty ≤ 536870912) (hcells : cells + 1 ≤ R.cells) (hslots : slots + N ≤ R.slots)
    (d5 : decode cc (pc + 5) = .ok (.putfield idx, 3)) (hk : r + 1 < 19) (q2 : Cond.fieldLink RX3 idx "ShredrollModel" (TX3 (r + 1)).2.1 (TX3 (r + 1)).2.2.1 ∈ pgWd) (href : (TX3 (r + 1)).1 = "ShredrollModel") (hfin : (TX3 (r + 1)).2.2.2 = true) (hd : parseFieldDescriptor (TX3 (r + 1)).2.2.1 = some (.array ty))
    (kk : ∀ md2 : Nat → Nat, md2 0 = q → pgJ p l e R s m args below meth c 2 A (pgM0 D cI cZ A md2 (r + 1)) (cells + 1) (slots + N) Q (pc + 8) [(0, .ref q)] []) : pgJ p l e R s m args below meth c 2 A (pgM0 D cI cZ A md r) cells slots Q pc [(0, .ref q)] [] := by
  refine j_aload_n B d0 0 rfl rfl ?_
  refine j_bipush B d1 hn ?_
  refine j_newa B (a0 := (N, .inl (fun _ => 0))) hty q1 t0 ht hra (fun cA => by rw [hdef]; rfl) hn0 hN hb4 hcells hslots d3 (fun q3 hA3 => ?_)
  refine j_world (Wd' := fun H => pgM0 D cI cZ A md r H ∧ va_at D vwCl (q3, .inl (pgMa cI cZ pgZ0 (fun _ => 0) (r + 1))) H ∧ ∀ k, k ≤ r → md k ≠ q3) (fun H h => by
    have h2 := pgFresh_M0 h
    rw [hpa]
    exact h2) ?_
  refine j_fact (P := (∀ k, k ≤ r → md k ≠ q3) ∧ A (md 0)) (fun H h => ⟨h.2.2, h.1.2.2.2 0 (by omega)⟩) (fun hne => ?_)
  subst h0
  refine j_putF B (Wd' := pgM0 D cI cZ A (va_up md (r + 1) q3) (r + 1)) pgX3 tyX3 tyX3_ok nmX3 rfl (fun H h => h.1.1) (r + 1) hk q2 href hfin hin2 (href.trans rfl) hd rfl rfl (show r + 1 < 19 from hk) d5 hne.2 (fun H H1 h hc hz ho => pgM0.push h.1 hr h.2.1 h.2.2 hA3 hc ho) ?_
  exact kk _ (va_up_ne _ _ (by omega))
set_option maxHeartbeats 4000000 in
set_option maxRecDepth 100000 in
/-- ShredrollModel() -/
theorem c_X3_init (l : Launch) (D : va_G) (cD cC cI cZ cL : ClassId) (A : Nat → Prop) (q : Nat) (hAq : A q) : Met l yX3_init (.code yX3_init cX3_init 2 none :: pgWd) ({ frames := 1, cells := 13, slots := 720, locals := 12 } : Room) (pgPc D (pgTys cD cC cI cZ cL) A (fun H => va_at D vwCl (q, .inr (3, [.int 0, .null, .null, .null, .null, .null, .null, .null, .null, .null, .null, .null, .null, .null, .int 0, .int 0, .int 0, .int 0, .int 0])) H) [.ref q]) (va_Qv (fun (u : Nat → Nat) => u 0 = q) (fun u t9 => pgM D cI cZ A pgS0 (fun _ => 0) 0 u t9.heap) A) 13 720 A := by
  refine pg_enter (own := RX3) (by decide) rfl (Nat.le_of_ble_eq_true rfl) (fun p e s m below meth cc9 B hr hnm => ?_)
  refine j_aload_n B dX3_init_0 0 rfl rfl ?_
  refine j_objInit B q_504 q_18 q_19 dX3_init_1 (Nat.le_of_ble_eq_true rfl) (Nat.le_of_ble_eq_true rfl) ?_
  refine j_world (Wd' := pgM0 D cI cZ A (fun _ => q) 0) (fun H h => ⟨h, fun k h0 hk => by omega, fun a b ha hb _ => by omega, fun k hk => hAq⟩) ?_
  refine j_marr B hnm (r := 0) (N := 60) (n := 60) (cA := cI) (ty := .int) (idx := 7) rfl (by omega) rfl dX3_init_4 dX3_init_5 (by decide) dX3_init_7 rfl rfl q_563 2 rfl (fun h => h) (by decide) (by decide) (by decide) (Nat.le_of_ble_eq_true rfl) (Nat.le_of_ble_eq_true rfl) dX3_init_9 (by omega) q_506 rfl rfl rfl (fun md0 h0 => ?_)
  refine j_marr B hnm (r := 1) (N := 60) (n := 60) (cA := cI) (ty := .int) (idx := 13) h0 (by omega) rfl dX3_init_12 dX3_init_13 (by decide) dX3_init_15 rfl rfl q_563 2 rfl (fun h => h) (by decide) (by decide) (by decide) (Nat.le_of_ble_eq_true rfl) (Nat.le_of_ble_eq_true rfl) dX3_init_17 (by omega) q_507 rfl rfl rfl (fun md1 h1 => ?_)
  refine j_marr B hnm (r := 2) (N := 60) (n := 60) (cA := cI) (ty := .int) (idx := 16) h1 (by omega) rfl dX3_init_20 dX3_init_21 (by decide) dX3_init_23 rfl rfl q_563 2 rfl (fun h => h) (by decide) (by decide) (by decide) (Nat.le_of_ble_eq_true rfl) (Nat.le_of_ble_eq_true rfl) dX3_init_25 (by omega) q_508 rfl rfl rfl (fun md2 h2 => ?_)
  refine j_marr B hnm (r := 3) (N := 60) (n := 60) (cA := cI) (ty := .int) (idx := 19) h2 (by omega) rfl dX3_init_28 dX3_init_29 (by decide) dX3_init_31 rfl rfl q_563 2 rfl (fun h => h) (by decide) (by decide) (by decide) (Nat.le_of_ble_eq_true rfl) (Nat.le_of_ble_eq_true rfl) dX3_init_33 (by omega) q_509 rfl rfl rfl (fun md3 h3 => ?_)
  refine j_marr B hnm (r := 4) (N := 60) (n := 60) (cA := cI) (ty := .int) (idx := 22) h3 (by omega) rfl dX3_init_36 dX3_init_37 (by decide) dX3_init_39 rfl rfl q_563 2 rfl (fun h => h) (by decide) (by decide) (by decide) (Nat.le_of_ble_eq_true rfl) (Nat.le_of_ble_eq_true rfl) dX3_init_41 (by omega) q_510 rfl rfl rfl (fun md4 h4 => ?_)
  refine j_marr B hnm (r := 5) (N := 60) (n := 60) (cA := cZ) (ty := .boolean) (idx := 25) h4 (by omega) rfl dX3_init_44 dX3_init_45 (by decide) dX3_init_47 rfl rfl q_564 3 rfl (fun h => h) (by decide) (by decide) (by decide) (Nat.le_of_ble_eq_true rfl) (Nat.le_of_ble_eq_true rfl) dX3_init_49 (by omega) q_511 rfl rfl rfl (fun md5 h5 => ?_)
  refine j_marr B hnm (r := 6) (N := 60) (n := 60) (cA := cI) (ty := .int) (idx := 29) h5 (by omega) rfl dX3_init_52 dX3_init_53 (by decide) dX3_init_55 rfl rfl q_563 2 rfl (fun h => h) (by decide) (by decide) (by decide) (Nat.le_of_ble_eq_true rfl) (Nat.le_of_ble_eq_true rfl) dX3_init_57 (by omega) q_512 rfl rfl rfl (fun md6 h6 => ?_)
  refine j_marr B hnm (r := 7) (N := 60) (n := 60) (cA := cI) (ty := .int) (idx := 32) h6 (by omega) rfl dX3_init_60 dX3_init_61 (by decide) dX3_init_63 rfl rfl q_563 2 rfl (fun h => h) (by decide) (by decide) (by decide) (Nat.le_of_ble_eq_true rfl) (Nat.le_of_ble_eq_true rfl) dX3_init_65 (by omega) q_513 rfl rfl rfl (fun md7 h7 => ?_)
  refine j_marr B hnm (r := 8) (N := 60) (n := 60) (cA := cZ) (ty := .boolean) (idx := 35) h7 (by omega) rfl dX3_init_68 dX3_init_69 (by decide) dX3_init_71 rfl rfl q_564 3 rfl (fun h => h) (by decide) (by decide) (by decide) (Nat.le_of_ble_eq_true rfl) (Nat.le_of_ble_eq_true rfl) dX3_init_73 (by omega) q_514 rfl rfl rfl (fun md8 h8 => ?_)
  refine j_marr B hnm (r := 9) (N := 60) (n := 60) (cA := cI) (ty := .int) (idx := 38) h8 (by omega) rfl dX3_init_76 dX3_init_77 (by decide) dX3_init_79 rfl rfl q_563 2 rfl (fun h => h) (by decide) (by decide) (by decide) (Nat.le_of_ble_eq_true rfl) (Nat.le_of_ble_eq_true rfl) dX3_init_81 (by omega) q_515 rfl rfl rfl (fun md9 h9 => ?_)
  refine j_marr B hnm (r := 10) (N := 10) (n := 10) (cA := cI) (ty := .int) (idx := 41) h9 (by omega) rfl dX3_init_84 dX3_init_85 (by decide) dX3_init_87 rfl rfl q_563 2 rfl (fun h => h) (by decide) (by decide) (by decide) (Nat.le_of_ble_eq_true rfl) (Nat.le_of_ble_eq_true rfl) dX3_init_89 (by omega) q_516 rfl rfl rfl (fun md10 h10 => ?_)
  refine j_marr B hnm (r := 11) (N := 10) (n := 10) (cA := cI) (ty := .int) (idx := 44) h10 (by omega) rfl dX3_init_92 dX3_init_93 (by decide) dX3_init_95 rfl rfl q_563 2 rfl (fun h => h) (by decide) (by decide) (by decide) (Nat.le_of_ble_eq_true rfl) (Nat.le_of_ble_eq_true rfl) dX3_init_97 (by omega) q_517 rfl rfl rfl (fun md11 h11 => ?_)
  refine j_marr B hnm (r := 12) (N := 100) (n := 100) (cA := cI) (ty := .int) (idx := 47) h11 (by omega) rfl dX3_init_100 dX3_init_101 (by decide) dX3_init_103 rfl rfl q_563 2 rfl (fun h => h) (by decide) (by decide) (by decide) (Nat.le_of_ble_eq_true rfl) (Nat.le_of_ble_eq_true rfl) dX3_init_105 (by omega) q_518 rfl rfl rfl (fun md12 h12 => ?_)
  refine j_world (Wd' := pgM D cI cZ A (pgSi 0) (fun _ => 0) 0 md12) (fun H h => pgM0.done h) ?_
  subst h12
  refine j_fact (fun H h => pgM.inA h) (fun hIn => ?_)
  refine j_iconst B (v := 0) dX3_init_108 (by decide) ?_
  refine j_istore_n B (L' := [(1, .int 0), (0, .ref (md12 0))]) dX3_init_109 rfl (by decide) rfl ?_
  refine j_loop (N := 10) (X := Unit) (fun i x => True) (fun i x => pgM D cI cZ A (pgSi i) (fun _ => 0) 0 md12) (fun i x => [(1, .int (nI i)), (0, .ref (md12 0))]) (fun i x hi hv ih => ?_) 0 () (by omega) trivial
  refine j_iload_n B dX3_init_110 0 rfl rfl ?_
  refine j_bipush B (v := 10) dX3_init_111 (by decide) ?_
  refine j_icmp_ge B 129 dX3_init_113 (by decide) (fun h1 => ?_) (fun h1 => ?_)
  · obtain rfl := pg_eqN hi (by omega) h1
    exact j_vret B hr dX3_init_129 (Nat.le_of_ble_eq_true rfl) (Nat.le_of_ble_eq_true rfl) md12 rfl (fun H h => h)
  · have hlt := pg_ltN (N := 10) (by omega) hi h1
    refine j_aload_n B dX3_init_116 1 rfl rfl ?_
    refine j_get B (v := .ref (md12 12)) pgX3 rfl (fun H h => pgM.m h) 12 (by decide) q_517 rfl rfl dX3_init_117 ?_
    refine j_iload_n B dX3_init_120 0 rfl rfl ?_
    refine j_iconst B (v := (-1)) dX3_init_121 (by decide) ?_
    refine j_iast B (Wd' := pgM D cI cZ A (pgU (pgSi i) 11 i (-1)) (fun _ => 0) 0 md12) (fun H h => pgM.a12 h) 2 rfl (vp_in_nI hlt (by omega)) dX3_init_122 (hIn 12 (by omega)) (fun H H1 h hc hz ho => pgM.putA h (by decide) (pgMx rfl rfl (by decide)) (by rw [show (nI i).toNatClampNeg = i from nI_clamp (by omega)] at hc; exact hc) ho) ?_
    refine j_iinc B (v := nI (i + 1)) (L' := [(1, .int (nI (i + 1))), (0, .ref (md12 0))]) dX3_init_123 0 rfl (nI_1 i) (by decide) rfl ?_
    refine j_goto B 110 dX3_init_126 (by decide) ?_
    exact j_world (fun H h => pgM.eq h pgSi_up) (ih hlt () trivial)
