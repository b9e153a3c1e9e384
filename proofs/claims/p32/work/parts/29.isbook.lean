section PVC2
variable {p : Program} {l : Launch} {e : Env} {R : Room} {s : State} {m : MethodId} {args : Array Value} {below : List Frame} {meth : Method} {c : Code} {own : String} {cc : ByteArray} {nL : Nat} {D : va_G} {tys : List (ClassId × FieldType)} {A : Nat → Prop} {Wd : Heap → Prop} {cells slots : Nat} {Q : State → Prop} {pc : Nat} {L L' : List (Nat × Value)} {st stk : List Value}
variable {cD cC cI cZ cL : ClassId} {σ φ : pgSt} {n : Nat} {ad ca : Nat → Nat} {f : Nat → Int64}
theorem j_ask2 (B : pgB p m c s args meth own cc nL D (pgTys cD cC cI cZ cL) A) {y : MethodName} {bytes : ByteArray} {maxL : Nat} {ret : Option FieldType} {rm : Room} {idx : Nat} {S : pgRes} (v : Int32) {σ2 : pgSt} (n1 : Nat) (As : List Value) (hM : vx_Met l y (.code y bytes maxL ret :: pgWd) rm (pgPc D (pgTys cD cC cI cZ cL) (pvA A ca) (pgR D cD cC (pvA A ca) σ n ad) (.ref (ad 0) :: As)) (va_Qi (fun (r : Int32) (_ : Unit) => S.1 = 0 ∧ r = S.2.1) (fun _ t9 => pgR D cD cC (pvA A ca) σ2 n ad t9.heap) (pvA A ca)) (pgX (pvA A ca) (fun k => S.1 = k ∧ k ≠ 0) (pgR D cD cC (pvA A ca) σ n ad)) rm.cells rm.slots (pvA A ca)) (hS : S.1 = 0 ∧ S.2.1 = v) (q1 : Cond.methodLink own idx y ∈ pgWd) (q2 : Cond.instanceMethod y ∈ pgWd) (q3 : Cond.selects RX2 y y ∈ pgWd) (q4 : Cond.initialized RX2 ∈ pgWd) (q5 : Cond.code y bytes maxL ret ∈ pgWd) (hd : y.cls = RX2 ∧ y.cls ≠ "java/lang/invoke/MethodHandle" ∧ y.cls ≠ "java/lang/invoke/VarHandle" ∧ (parseMethodDescriptor y.desc).map (fun d => d.parameters.length) = some n1) (hn : As.length = n1) (hR : rm.frames + 1 ≤ R.frames ∧ 8 + (maxL + 11) + rm.locals ≤ R.locals) (hcat : (st.map fun v => v.category).sum ≤ 8) (hdg : decode cc pc = .ok (.invokevirtual idx, 3)) (hstk : stk = As.reverse ++ .ref (ad 0) :: st) (k9 n9 : Nat) (hk : cells + rm.cells ≤ k9 ∧ slots + rm.slots ≤ n9) (hcl : k9 ≤ R.cells ∧ n9 ≤ R.slots) (kk : pgJ p l e R s m args below meth c nL A (pvW D cD cC cI cL A σ2 n ad φ ca f) (k9) (n9) (Q) (pc + 3) (L) (.int v :: st)) : pgJ p l e R s m args below meth c nL A (pvW D cD cC cI cL A σ n ad φ ca f) (cells) (slots) (Q) (pc) (L) (stk) := by
  obtain ⟨hS0, hS1⟩ := hS
  subst hS1
  refine j_wVi B n1 As (Wd' := fun _ => pvW D cD cC cI cL A σ2 n ad φ ca f) (WdX' := pvW D cD cC cI cL A σ n ad φ ca f) hM rfl (fun H h => h.x) q1 q2 q3 q4 q5 hd hn hR hcat hdg hstk ⟨Nat.le_trans hk.1 hcl.1, Nat.le_trans hk.2 hcl.2⟩ (fun _ h => h.1) (fun H h q hq hA => h.new q hq hA) (fun H h => h.1) (fun H H1 u h h1 hz hk => h.cls h1 hk) (fun H H1 h h1 hz hk => h.cls h1 hk) (fun k hk => absurd (hk.1.symm.trans hS0) hk.2) (fun r u hp => ?_)
  obtain ⟨-, rfl⟩ := hp
  exact j_widen hk.1 hk.2 kk
end PVC2
/-- how many disks the keepers below q have together -/
def pvS (σ : pgSt) (n : Nat) : Nat → Nat
  | 0 => 0
  | q + 1 => pvS σ n q + pgN (fun j => decide (σ 2 j = nI q)) n
theorem pvS_no {σ : pgSt} {n : Nat} : ∀ {q : Nat}, (∀ k, k < q → σ 2 n ≠ nI k) → pvS σ (n + 1) q = pvS σ n q
  | 0, _ => rfl
  | q + 1, h => by
    have e := pvS_no (σ := σ) (n := n) (q := q) (fun k hk => h k (by omega))
    have hq := h q (by omega)
    show pvS σ (n + 1) q + (pgN _ n + _) = pvS σ n q + pgN _ n
    rw [e, if_neg (by simpa using hq)]
    rfl
theorem pvS_yes {σ : pgSt} {n k : Nat} : ∀ {q : Nat}, q ≤ 8 → k < q → σ 2 n = nI k → pvS σ (n + 1) q = pvS σ n q + 1
  | 0, _, h, _ => by omega
  | q + 1, h8, h, e => by
    show pvS σ (n + 1) q + (pgN _ n + _) = pvS σ n q + pgN _ n + 1
    by_cases z : k = q
    · subst z
      rw [pvS_no (fun k2 hk2 => fun z2 => by
        have := (nI_eq (by omega) (by omega)).mp (e.symm.trans z2)
        omega), if_pos (by simpa using e)]
      omega
    · rw [pvS_yes (by omega) (by omega) e, if_neg (by
        intro z2
        have z3 : σ 2 n = nI q := by simpa using z2
        have := (nI_eq (by omega) (by omega)).mp (e.symm.trans z3)
        omega)]
      omega
theorem pvS_0 {σ : pgSt} : ∀ q : Nat, pvS σ 0 q = 0
  | 0 => rfl
  | q + 1 => by
    show pvS σ 0 q + 0 = 0
    rw [pvS_0 q]
theorem pvS_all {σ : pgSt} : ∀ {n : Nat}, (∀ j, j < n → ∃ k, k < 8 ∧ σ 2 j = nI k) → pvS σ n 8 = n
  | 0, _ => pvS_0 8
  | n + 1, h => by
    obtain ⟨k, hk, e⟩ := h n (by omega)
    rw [pvS_yes (Nat.le_refl 8) hk e, pvS_all (fun j hj => h j (by omega))]
theorem pv_cntB {P : Nat → Bool} {i : Nat} {v : Int32} (h : v = 1 ∧ P i = true ∨ v = 0 ∧ ¬ P i = true) : nI (pgN P i) + v = nI (pgN P (i + 1)) := by
  show _ = nI (pgN P i + _)
  rcases h with ⟨rfl, h⟩ | ⟨rfl, h⟩
  · rw [if_pos h]; exact nI_1 _
  · rw [if_neg h]; exact nI_add _ 0
theorem pv_62 {σ φ : pgSt} {j : Nat} (h : pvD σ φ j) : σ 6 j ≠ σ 2 j := by
  rcases h.2.2.1 with z | z
  · obtain ⟨k, hk, e⟩ := h.1
    rw [z, e]
    exact fun z2 => pv_nm1 (by omega) z2.symm
  · exact z.2.1
theorem pv_ce9 {n i Bd : Nat} {σ : pgSt} (h : pvC n σ Bd) (hB : Bd ≤ 1000) (hi : i < n) : ¬ σ 13 4 ≤ σ 9 i := by
  obtain ⟨C, c1, c2, c3⟩ := h
  rw [c2]
  rcases c3 i hi with z | ⟨k, hk, z⟩
  · rw [z]
    intro h2
    exact nI_pos (n := C) (by omega) (Int32.lt_of_le_of_lt h2 (by decide))
  · rw [z]
    exact nI_ge hk (by omega)
/-- isBook -/
abbrev rm_isBook : Room := { frames := 8, cells := 620, slots := 3720, locals := 128 }
set_option maxHeartbeats 4000000 in
set_option maxRecDepth 100000 in
theorem c_L_isBook (l : Launch) (hl : l.stackTraces = false) (D : va_G) (cD cC cI cZ cL : ClassId) (A : Nat → Prop) (σ φ : pgSt) (n : Nat) (ad ca : Nat → Nat) (f : Nat → Int64) (Bd : Nat) (hB : Bd ≤ 1000) (h : pvI n σ φ (f 0) Bd) : Met l yL_isBook (.code yL_isBook cL_isBook 10 (some .boolean) :: pgWd) rm_isBook (pgPc D (pgTys cD cC cI cZ cL) A (pvW D cD cC cI cL A σ n ad φ ca f) [.ref (ad 0), .ref (ca 0), .ref (ca 5)]) (va_Qi (fun (r : Int32) (u : Unit) => r = 1) (fun u t9 => (pvW D cD cC cI cL A σ n ad φ ca f) t9.heap) A) rm_isBook.cells rm_isBook.slots A := by
  refine pv_enter (own := RL) (by decide) rfl (Nat.le_of_ble_eq_true rfl) (fun p e s m args below meth cc9 Q B hret => ?_)
  have hG := h.1
  have hn60 : n ≤ 60 := hG.1
  have hc0 : φ 0 0 = nI n := h.2.1.1
  have hm := h.2.2.2.2.2.2
  have e0 : σ 13 0 = nI n := hG.2.1
  have e1 : φ 0 1 = σ 13 3 := h.2.1.2.1
  have e2 : φ 0 2 = σ 13 4 := h.2.1.2.2.1
  have e4 : φ 0 4 = σ 13 2 := h.2.1.2.2.2.2
  have hsum : pvS σ n 8 = n := pvS_all (fun j hj => (h.2.2.1 j hj).1)
  have hmis := pv_mis hG
  refine j_iconst B (v := 0) dL_isBook_0 (by decide) ?_
  refine j_istore_n B (L' := [(3, .int 0), (0, .ref (ad 0)), (1, .ref (ca 0)), (2, .ref (ca 5))]) dL_isBook_1 rfl (by decide) rfl ?_
  refine j_iconst B (v := 0) dL_isBook_2 (by decide) ?_
  refine j_istore B (L' := [(4, .int 0), (3, .int 0), (0, .ref (ad 0)), (1, .ref (ca 0)), (2, .ref (ca 5))]) dL_isBook_3 (by decide) rfl ?_
  refine j_aload_n B dL_isBook_5 2 rfl rfl ?_
  refine j_ask0 B 0 [] (c_X2_disks l D cD cC cI cZ cL (pvA A ca) σ n ad) q_457 q_458 q_459 q_1 q_460 hdX2_disks rfl ⟨Nat.le_of_ble_eq_true rfl, Nat.le_of_ble_eq_true rfl⟩ (Nat.le_of_ble_eq_true rfl) dL_isBook_6 rfl (0) (0) ⟨Nat.le_of_ble_eq_true rfl, Nat.le_of_ble_eq_true rfl⟩ ⟨Nat.le_of_ble_eq_true rfl, Nat.le_of_ble_eq_true rfl⟩ ?_
  refine j_aload_n B dL_isBook_9 3 rfl rfl ?_
  refine j_iconst B (v := 0) dL_isBook_10 (by decide) ?_
  refine j_pld B (k := 0) (j := 0) (v := nI n) (by omega) rfl (show 0 < 5 by omega) hc0 dL_isBook_11 ?_
  refine j_icmp_ne B 49 dL_isBook_12 (by decide) (fun h1 => (by clear B hret; grind : False).elim) (fun h1 => ?_)
  refine j_aload_n B dL_isBook_15 2 rfl rfl ?_
  refine j_ask0 B 0 [] (c_X2_logged l D cD cC cI cZ cL (pvA A ca) σ n ad) q_461 q_462 q_463 q_1 q_464 hdX2_logged rfl ⟨Nat.le_of_ble_eq_true rfl, Nat.le_of_ble_eq_true rfl⟩ (Nat.le_of_ble_eq_true rfl) dL_isBook_16 rfl (0) (0) ⟨Nat.le_of_ble_eq_true rfl, Nat.le_of_ble_eq_true rfl⟩ ⟨Nat.le_of_ble_eq_true rfl, Nat.le_of_ble_eq_true rfl⟩ ?_
  refine j_aload_n B dL_isBook_19 3 rfl rfl ?_
  refine j_iconst B (v := 1) dL_isBook_20 (by decide) ?_
  refine j_pld B (k := 0) (j := 1) (v := φ 0 1) (by omega) rfl (show 1 < 5 by omega) rfl dL_isBook_21 ?_
  refine j_icmp_ne B 49 dL_isBook_22 (by decide) (fun h2 => (by clear B hret; grind : False).elim) (fun h2 => ?_)
  refine j_aload_n B dL_isBook_25 2 rfl rfl ?_
  refine j_ask0 B 0 [] (c_X2_certificates l D cD cC cI cZ cL (pvA A ca) σ n ad) q_465 q_466 q_467 q_1 q_468 hdX2_certificates rfl ⟨Nat.le_of_ble_eq_true rfl, Nat.le_of_ble_eq_true rfl⟩ (Nat.le_of_ble_eq_true rfl) dL_isBook_26 rfl (0) (0) ⟨Nat.le_of_ble_eq_true rfl, Nat.le_of_ble_eq_true rfl⟩ ⟨Nat.le_of_ble_eq_true rfl, Nat.le_of_ble_eq_true rfl⟩ ?_
  refine j_aload_n B dL_isBook_29 3 rfl rfl ?_
  refine j_iconst B (v := 2) dL_isBook_30 (by decide) ?_
  refine j_pld B (k := 0) (j := 2) (v := φ 0 2) (by omega) rfl (show 2 < 5 by omega) rfl dL_isBook_31 ?_
  refine j_icmp_ne B 49 dL_isBook_32 (by decide) (fun h3 => (by clear B hret; grind : False).elim) (fun h3 => ?_)
  refine j_aload_n B dL_isBook_35 2 rfl rfl ?_
  refine j_ask0 B 0 [] (c_X2_oddCounts l D cD cC cI cZ cL (pvA A ca) σ n ad) q_469 q_470 q_471 q_1 q_472 hdX2_oddCounts rfl ⟨Nat.le_of_ble_eq_true rfl, Nat.le_of_ble_eq_true rfl⟩ (Nat.le_of_ble_eq_true rfl) dL_isBook_36 rfl (0) (0) ⟨Nat.le_of_ble_eq_true rfl, Nat.le_of_ble_eq_true rfl⟩ ⟨Nat.le_of_ble_eq_true rfl, Nat.le_of_ble_eq_true rfl⟩ ?_
  refine j_aload_n B dL_isBook_39 3 rfl rfl ?_
  refine j_iconst B (v := 4) dL_isBook_40 (by decide) ?_
  refine j_pld B (k := 0) (j := 4) (v := φ 0 4) (by omega) rfl (show 4 < 5 by omega) rfl dL_isBook_41 ?_
  refine j_icmp_ne B 49 dL_isBook_42 (by decide) (fun h4 => (by clear B hret; grind : False).elim) (fun h4 => ?_)
  refine j_iconst B (v := 1) dL_isBook_45 (by decide) ?_
  refine j_goto B 50 dL_isBook_46 (by decide) ?_
  refine j_istore B (L' := [(5, .int 1), (4, .int 0), (3, .int 0), (0, .ref (ad 0)), (1, .ref (ca 0)), (2, .ref (ca 5))]) dL_isBook_50 (by decide) rfl ?_
  refine j_iconst B (v := 0) dL_isBook_52 (by decide) ?_
  refine j_istore B (L' := [(6, .int 0), (5, .int 1), (4, .int 0), (3, .int 0), (0, .ref (ad 0)), (1, .ref (ca 0)), (2, .ref (ca 5))]) dL_isBook_53 (by decide) rfl ?_
  refine j_loopC (N := n) (X := Unit) (fun i => 0 + 10 * i) (fun i => 0 + 60 * i) (fun i x => True) (fun i x => pvW D cD cC cI cL A σ n ad φ ca f) (fun i x => [(6, .int (nI i)), (5, .int 1), (4, .int 0), (3, .int (nI (pgN (fun a => decide (σ 5 a ≠ 0)) i))), (0, .ref (ad 0)), (1, .ref (ca 0)), (2, .ref (ca 5))]) (fun i x hi hv ih => ?_) 0 () (by omega) (trivial)
  refine j_iload B dL_isBook_55 0 rfl ?_
  refine j_aload_n B dL_isBook_57 5 rfl rfl ?_
  refine j_iconst B (v := 0) dL_isBook_58 (by decide) ?_
  refine j_pld B (k := 0) (j := 0) (v := nI n) (by omega) rfl (show 0 < 5 by omega) hc0 dL_isBook_59 ?_
  refine j_icmp_ge B 235 dL_isBook_60 (by decide) (fun h5 => ?_) (fun h5 => ?_)
  · have en := pg_eqN hi (by omega) h5
    rw [← en]
    refine j_iconst B (v := 0) dL_isBook_235 (by decide) ?_
    refine j_istore B (L' := [(6, .int 0), (5, .int 1), (4, .int 0), (3, .int (nI (pgN (fun a => decide (σ 5 a ≠ 0)) n))), (0, .ref (ad 0)), (1, .ref (ca 0)), (2, .ref (ca 5))]) dL_isBook_236 (by decide) rfl ?_
    refine j_loopC (N := 8) (X := Unit) (fun i2 => (0 + 10 * n + 0) + 1 * i2) (fun i2 => (0 + 60 * n + 0) + 6 * i2) (fun i2 x2 => True) (fun i2 x2 => pvW D cD cC cI cL A σ n ad φ ca f) (fun i2 x2 => [(6, .int (nI i2)), (5, .int 1), (4, .int (nI (pvS σ n i2))), (3, .int (nI (pgN (fun a => decide (σ 5 a ≠ 0)) n))), (0, .ref (ad 0)), (1, .ref (ca 0)), (2, .ref (ca 5))]) (fun i2 x2 hi2 hv2 ih2 => ?_) 0 () (by omega) (trivial)
    refine j_iload B dL_isBook_238 0 rfl ?_
    refine j_bipush B (v := 8) dL_isBook_240 (by decide) ?_
    refine j_icmp_ge B 262 dL_isBook_242 (by decide) (fun h6 => ?_) (fun h6 => ?_)
    · have en2 := pg_eqN (N := 8) hi2 (by omega) h6
      rw [← en2]
      refine j_iload B dL_isBook_262 1 rfl ?_
      refine j_if_eq B 287 dL_isBook_264 (by decide) (fun h7 => absurd h7 (by decide)) (fun h7 => ?_)
      refine j_aload_n B dL_isBook_267 4 rfl rfl ?_
      refine j_ask0 B 0 [] (c_X2_missing l D cD cC cI cZ cL (pvA A ca) σ n ad hG) q_481 q_482 q_483 q_1 q_484 hdX2_missing rfl ⟨Nat.le_of_ble_eq_true rfl, Nat.le_of_ble_eq_true rfl⟩ (Nat.le_of_ble_eq_true rfl) dL_isBook_268 rfl ((0 + 10 * n + 0) + 1 * 8 + 0) ((0 + 60 * n + 0) + 6 * 8 + 0) ⟨by show _ + 0 ≤ _; omega, by show _ + 0 ≤ _; omega⟩ ⟨(show _ ≤ 620 by omega), (show _ ≤ 3720 by omega)⟩ ?_
      refine j_iload_n B dL_isBook_271 3 rfl rfl ?_
      refine j_icmp_ne B 287 dL_isBook_272 (by decide) (fun h8 => (by clear B hret ih ih2; grind : False).elim) (fun h8 => ?_)
      refine j_iload B dL_isBook_275 2 rfl ?_
      refine j_aload_n B dL_isBook_277 5 rfl rfl ?_
      refine j_iconst B (v := 0) dL_isBook_278 (by decide) ?_
      refine j_pld B (k := 0) (j := 0) (v := nI n) (by omega) rfl (show 0 < 5 by omega) hc0 dL_isBook_279 ?_
      refine j_icmp_ne B 287 dL_isBook_280 (by decide) (fun h9 => (by clear B hret ih ih2; grind : False).elim) (fun h9 => ?_)
      refine j_iconst B (v := 1) dL_isBook_283 (by decide) ?_
      refine j_goto B 288 dL_isBook_284 (by decide) ?_
      exact hret 288 _ 1 () ((0 + 10 * n + 0) + 1 * 8 + 0) ((0 + 60 * n + 0) + 6 * 8 + 0) dL_isBook_288 rfl (show _ ≤ 620 by omega) (show _ ≤ 3720 by omega) rfl
    · have hlt2 : i2 < 8 := pg_ltN (N := 8) (by omega) hi2 h6
      refine j_iload B dL_isBook_245 2 rfl ?_
      refine j_aload_n B dL_isBook_247 4 rfl rfl ?_
      refine j_iload B dL_isBook_248 0 rfl ?_
      refine j_ask2 B (nI (pgN (fun j => decide (σ 2 j = nI i2)) n)) 1 [.int (nI i2)] (c_X2_has l hl D cD cC cI cZ cL (pvA A ca) σ n ad hG (nI i2)) (by rw [pv_has hG (by omega)]; exact ⟨rfl, rfl⟩) q_477 q_478 q_479 q_1 q_480 hdX2_has rfl ⟨Nat.le_of_ble_eq_true rfl, Nat.le_of_ble_eq_true rfl⟩ (Nat.le_of_ble_eq_true rfl) dL_isBook_250 rfl ((0 + 10 * n + 0) + 1 * i2 + 1) ((0 + 60 * n + 0) + 6 * i2 + 6) ⟨by show _ + 1 ≤ _; omega, by show _ + 6 ≤ _; omega⟩ ⟨(show _ ≤ 620 by omega), (show _ ≤ 3720 by omega)⟩ ?_
      refine j_addv B (nI (pvS σ n (i2 + 1))) (nI_add _ _) dL_isBook_253 ?_
      refine j_istore B (L' := [(4, .int (nI (pvS σ n (i2 + 1)))), (6, .int (nI i2)), (5, .int 1), (3, .int (nI (pgN (fun a => decide (σ 5 a ≠ 0)) n))), (0, .ref (ad 0)), (1, .ref (ca 0)), (2, .ref (ca 5))]) dL_isBook_254 (by decide) rfl ?_
      refine j_iinc B (v := nI (i2 + 1)) (L' := [(6, .int (nI (i2 + 1))), (4, .int (nI (pvS σ n (i2 + 1)))), (5, .int 1), (3, .int (nI (pgN (fun a => decide (σ 5 a ≠ 0)) n))), (0, .ref (ad 0)), (1, .ref (ca 0)), (2, .ref (ca 5))]) dL_isBook_256 1 rfl (nI_add _ _) (by decide) rfl ?_
      refine j_goto B 238 dL_isBook_259 (by decide) ?_
      refine j_locals (L' := [(6, .int (nI (i2 + 1))), (5, .int 1), (4, .int (nI (pvS σ n (i2 + 1)))), (3, .int (nI (pgN (fun a => decide (σ 5 a ≠ 0)) n))), (0, .ref (ad 0)), (1, .ref (ca 0)), (2, .ref (ca 5))]) [0, 2, 1, 3, 4, 5, 6] rfl ?_
      refine j_widen (k := (0 + 10 * n + 0) + 1 * (i2 + 1)) (n := (0 + 60 * n + 0) + 6 * (i2 + 1)) (by omega) (by omega) ?_
      exact ih2 hlt2 () (trivial)
  · have hlt : i < n := pg_ltN (by omega) hi h5
    have hmi := hm i (by omega)
    have e14 := hG.2.2.2.2.2 i hlt
    have hDi := h.2.2.1 i hlt
    have e62 := pv_62 hDi
    have hcr := pv_cr hG hlt
    have e9 : ¬ φ 0 2 ≤ σ 9 i := by rw [e2]; exact pv_ce9 h.2.2.2.2.2.1 hB hlt
    have e65 : σ 6 i = -1 ∨ σ 5 i = 0 := hDi.2.2.1.elim Or.inl (fun z => Or.inr z.2.2)
    have hf3 : σ 4 i = 3 → pgFin σ i := Or.inl
    have hfn : ¬ σ 4 i = 3 → ¬ σ 4 i = 1 → ¬ pgFin σ i := fun a b z => z.elim a (fun z => b z.1)
    refine j_iload B dL_isBook_63 1 rfl ?_
    refine j_if_eq B 235 dL_isBook_65 (by decide) (fun h10 => absurd h10 (by decide)) (fun h10 => ?_)
    refine j_aload_n B dL_isBook_68 4 rfl rfl ?_
    refine j_iload B dL_isBook_69 0 rfl ?_
    refine j_ask B (σ 3 i) 1 [.int (nI i)] (c_X2_crateOf l hl D cD cC cI cZ cL (pvA A ca) σ n ad hG (nI i)) (pv_askD hG (by omega) 3) q_254 q_255 q_256 q_1 q_257 hdX2_crateOf rfl ⟨Nat.le_of_ble_eq_true rfl, Nat.le_of_ble_eq_true rfl⟩ (Nat.le_of_ble_eq_true rfl) dL_isBook_71 rfl (0 + 10 * i + 1) (0 + 60 * i + 6) ⟨by show _ + 1 ≤ _; omega, by show _ + 6 ≤ _; omega⟩ ⟨(show _ ≤ 620 by omega), (show _ ≤ 3720 by omega)⟩ ?_
    refine j_istore B (L' := [(7, .int (σ 3 i)), (6, .int (nI i)), (5, .int 1), (4, .int 0), (3, .int (nI (pgN (fun a => decide (σ 5 a ≠ 0)) i))), (0, .ref (ad 0)), (1, .ref (ca 0)), (2, .ref (ca 5))]) dL_isBook_74 (by decide) rfl ?_
    refine j_aload_n B dL_isBook_76 5 rfl rfl ?_
    refine j_iload B dL_isBook_77 1 rfl ?_
    refine j_ask B (σ 4 i) 1 [.int (nI i)] (c_X2_stateOf l hl D cD cC cI cZ cL (pvA A ca) σ n ad hG (nI i)) (pv_askD hG (by omega) 4) q_250 q_251 q_252 q_1 q_253 hdX2_stateOf rfl ⟨Nat.le_of_ble_eq_true rfl, Nat.le_of_ble_eq_true rfl⟩ (Nat.le_of_ble_eq_true rfl) dL_isBook_79 rfl (0 + 10 * i + 2) (0 + 60 * i + 12) ⟨by show _ + 1 ≤ _; omega, by show _ + 6 ≤ _; omega⟩ ⟨(show _ ≤ 620 by omega), (show _ ≤ 3720 by omega)⟩ ?_
    refine j_istore B (L' := [(8, .int (σ 4 i)), (7, .int (σ 3 i)), (6, .int (nI i)), (5, .int 1), (4, .int 0), (3, .int (nI (pgN (fun a => decide (σ 5 a ≠ 0)) i))), (0, .ref (ad 0)), (1, .ref (ca 0)), (2, .ref (ca 5))]) dL_isBook_82 (by decide) rfl ?_
    refine j_aload_n B dL_isBook_84 6 rfl rfl ?_
    refine j_iload B dL_isBook_85 2 rfl ?_
    refine j_ask B (σ 6 i) 1 [.int (nI i)] (c_X2_offeredTo l hl D cD cC cI cZ cL (pvA A ca) σ n ad hG (nI i)) (pv_askD hG (by omega) 6) q_268 q_269 q_270 q_1 q_271 hdX2_offeredTo rfl ⟨Nat.le_of_ble_eq_true rfl, Nat.le_of_ble_eq_true rfl⟩ (Nat.le_of_ble_eq_true rfl) dL_isBook_87 rfl (0 + 10 * i + 3) (0 + 60 * i + 18) ⟨by show _ + 1 ≤ _; omega, by show _ + 6 ≤ _; omega⟩ ⟨(show _ ≤ 620 by omega), (show _ ≤ 3720 by omega)⟩ ?_
    refine j_istore B (L' := [(9, .int (σ 6 i)), (8, .int (σ 4 i)), (7, .int (σ 3 i)), (6, .int (nI i)), (5, .int 1), (4, .int 0), (3, .int (nI (pgN (fun a => decide (σ 5 a ≠ 0)) i))), (0, .ref (ad 0)), (1, .ref (ca 0)), (2, .ref (ca 5))]) dL_isBook_90 (by decide) rfl ?_
    refine j_iload_n B dL_isBook_92 6 rfl rfl ?_
    refine j_aload_n B dL_isBook_93 9 rfl rfl ?_
    refine j_iload B dL_isBook_94 3 rfl ?_
    refine j_lawI B 2 [.ref (ca 5), .int (nI i)] (c_L_isMissing l hl D cD cC cI cZ cL A σ φ n ad ca f i (by omega)) q_290 q_291 q_0 q_292 hdL_isMissing rfl ⟨Nat.le_of_ble_eq_true rfl, Nat.le_of_ble_eq_true rfl⟩ (Nat.le_of_ble_eq_true rfl) dL_isBook_96 rfl (0 + 10 * i + 3) (0 + 60 * i + 18) ⟨by show _ + 0 ≤ _; omega, by show _ + 0 ≤ _; omega⟩ ⟨(show _ ≤ 620 by omega), (show _ ≤ 3720 by omega)⟩ (fun r11 _ h12 => ?_)
    have kj13 : ∀ v14 : Int32, (v14 = 1 ∧ (σ 5 i ≠ 0) ∨ v14 = 0 ∧ ¬ (σ 5 i ≠ 0)) → pgJ p l e rm_isBook s m args below meth cc9 10 A (pvW D cD cC cI cL A σ n ad φ ca f) (0 + 10 * i + 3) (0 + 60 * i + 18) Q 107 [(9, .int (σ 6 i)), (8, .int (σ 4 i)), (7, .int (σ 3 i)), (6, .int (nI i)), (5, .int 1), (4, .int 0), (3, .int (nI (pgN (fun a => decide (σ 5 a ≠ 0)) i))), (0, .ref (ad 0)), (1, .ref (ca 0)), (2, .ref (ca 5))] (.int v14 :: [.int (nI (pgN (fun a => decide (σ 5 a ≠ 0)) i))]) := by
      intro v14 hv15
      refine j_addv B (nI (pgN (fun a => decide (σ 5 a ≠ 0)) (i + 1))) (pv_cntB (by simpa using hv15)) dL_isBook_107 ?_
      refine j_istore_n B (L' := [(3, .int (nI (pgN (fun a => decide (σ 5 a ≠ 0)) (i + 1)))), (9, .int (σ 6 i)), (8, .int (σ 4 i)), (7, .int (σ 3 i)), (6, .int (nI i)), (5, .int 1), (4, .int 0), (0, .ref (ad 0)), (1, .ref (ca 0)), (2, .ref (ca 5))]) dL_isBook_108 rfl (by decide) rfl ?_
      refine j_aload_n B dL_isBook_109 7 rfl rfl ?_
      refine j_iload B dL_isBook_110 4 rfl ?_
      refine j_ask B (σ 14 i) 1 [.int (nI i)] (c_X2_keeperByLog l hl D cD cC cI cZ cL (pvA A ca) σ n ad hG (nI i)) (pv_askD hG (by omega) 14) q_473 q_474 q_475 q_1 q_476 hdX2_keeperByLog rfl ⟨Nat.le_of_ble_eq_true rfl, Nat.le_of_ble_eq_true rfl⟩ (Nat.le_of_ble_eq_true rfl) dL_isBook_112 rfl (0 + 10 * i + 4) (0 + 60 * i + 24) ⟨by show _ + 1 ≤ _; omega, by show _ + 6 ≤ _; omega⟩ ⟨(show _ ≤ 620 by omega), (show _ ≤ 3720 by omega)⟩ ?_
      refine j_aload_n B dL_isBook_115 7 rfl rfl ?_
      refine j_iload B dL_isBook_116 4 rfl ?_
      refine j_ask B (σ 2 i) 1 [.int (nI i)] (c_X2_keeperOf l hl D cD cC cI cZ cL (pvA A ca) σ n ad hG (nI i)) (pv_askD hG (by omega) 2) q_241 q_242 q_243 q_1 q_244 hdX2_keeperOf rfl ⟨Nat.le_of_ble_eq_true rfl, Nat.le_of_ble_eq_true rfl⟩ (Nat.le_of_ble_eq_true rfl) dL_isBook_118 rfl (0 + 10 * i + 5) (0 + 60 * i + 30) ⟨by show _ + 1 ≤ _; omega, by show _ + 6 ≤ _; omega⟩ ⟨(show _ ≤ 620 by omega), (show _ ≤ 3720 by omega)⟩ ?_
      refine j_icmp_ne B 226 dL_isBook_121 (by decide) (fun h16 => (by clear B hret ih; grind : False).elim) (fun h16 => ?_)
      refine j_iload B dL_isBook_124 3 rfl ?_
      refine j_iconst B (v := (-1)) dL_isBook_126 (by decide) ?_
      have kj17 : pgJ p l e rm_isBook s m args below meth cc9 10 A (pvW D cD cC cI cL A σ n ad φ ca f) (0 + 10 * i + 7) (0 + 60 * i + 42) Q 151 [(3, .int (nI (pgN (fun a => decide (σ 5 a ≠ 0)) (i + 1)))), (9, .int (σ 6 i)), (8, .int (σ 4 i)), (7, .int (σ 3 i)), (6, .int (nI i)), (5, .int 1), (4, .int 0), (0, .ref (ad 0)), (1, .ref (ca 0)), (2, .ref (ca 5))] [] := by
        refine j_iload B dL_isBook_151 1 rfl ?_
        refine j_aload_n B dL_isBook_153 7 rfl rfl ?_
        refine j_iload B dL_isBook_154 4 rfl ?_
        refine j_ask B (σ 2 i) 1 [.int (nI i)] (c_X2_keeperOf l hl D cD cC cI cZ cL (pvA A ca) σ n ad hG (nI i)) (pv_askD hG (by omega) 2) q_241 q_242 q_243 q_1 q_244 hdX2_keeperOf rfl ⟨Nat.le_of_ble_eq_true rfl, Nat.le_of_ble_eq_true rfl⟩ (Nat.le_of_ble_eq_true rfl) dL_isBook_156 rfl (0 + 10 * i + 8) (0 + 60 * i + 48) ⟨by show _ + 1 ≤ _; omega, by show _ + 6 ≤ _; omega⟩ ⟨(show _ ≤ 620 by omega), (show _ ≤ 3720 by omega)⟩ ?_
        refine j_icmp_eq B 226 dL_isBook_159 (by decide) (fun h18 => (by clear B hret ih; grind : False).elim) (fun h18 => ?_)
        refine j_iload B dL_isBook_162 1 rfl ?_
        refine j_iconst B (v := (-1)) dL_isBook_164 (by decide) ?_
        have kj19 : pgJ p l e rm_isBook s m args below meth cc9 10 A (pvW D cD cC cI cL A σ n ad φ ca f) (0 + 10 * i + 8) (0 + 60 * i + 48) Q 177 [(3, .int (nI (pgN (fun a => decide (σ 5 a ≠ 0)) (i + 1)))), (9, .int (σ 6 i)), (8, .int (σ 4 i)), (7, .int (σ 3 i)), (6, .int (nI i)), (5, .int 1), (4, .int 0), (0, .ref (ad 0)), (1, .ref (ca 0)), (2, .ref (ca 5))] [] := by
          refine j_iload B dL_isBook_177 2 rfl ?_
          refine j_iconst B (v := 3) dL_isBook_179 (by decide) ?_
          have kj20 : pgJ p l e rm_isBook s m args below meth cc9 10 A (pvW D cD cC cI cL A σ n ad φ ca f) (0 + 10 * i + 9) (0 + 60 * i + 54) Q 210 [(3, .int (nI (pgN (fun a => decide (σ 5 a ≠ 0)) (i + 1)))), (9, .int (σ 6 i)), (8, .int (σ 4 i)), (7, .int (σ 3 i)), (6, .int (nI i)), (5, .int 1), (4, .int 0), (0, .ref (ad 0)), (1, .ref (ca 0)), (2, .ref (ca 5))] [] := by
            refine j_aload_n B dL_isBook_210 7 rfl rfl ?_
            refine j_iload B dL_isBook_211 4 rfl ?_
            refine j_ask B (σ 9 i) 1 [.int (nI i)] (c_X2_certificateOf l hl D cD cC cI cZ cL (pvA A ca) σ n ad hG (nI i)) (pv_askD hG (by omega) 9) q_280 q_281 q_282 q_1 q_283 hdX2_certificateOf rfl ⟨Nat.le_of_ble_eq_true rfl, Nat.le_of_ble_eq_true rfl⟩ (Nat.le_of_ble_eq_true rfl) dL_isBook_213 rfl (0 + 10 * i + 10) (0 + 60 * i + 60) ⟨by show _ + 1 ≤ _; omega, by show _ + 6 ≤ _; omega⟩ ⟨(show _ ≤ 620 by omega), (show _ ≤ 3720 by omega)⟩ ?_
            refine j_aload_n B dL_isBook_216 8 rfl rfl ?_
            refine j_iconst B (v := 2) dL_isBook_217 (by decide) ?_
            refine j_pld B (k := 0) (j := 2) (v := φ 0 2) (by omega) rfl (show 2 < 5 by omega) rfl dL_isBook_218 ?_
            refine j_icmp_ge B 226 dL_isBook_219 (by decide) (fun h21 => (by clear B hret ih; grind : False).elim) (fun h21 => ?_)
            refine j_iconst B (v := 1) dL_isBook_222 (by decide) ?_
            refine j_goto B 227 dL_isBook_223 (by decide) ?_
            refine j_istore B (L' := [(5, .int 1), (3, .int (nI (pgN (fun a => decide (σ 5 a ≠ 0)) (i + 1)))), (9, .int (σ 6 i)), (8, .int (σ 4 i)), (7, .int (σ 3 i)), (6, .int (nI i)), (4, .int 0), (0, .ref (ad 0)), (1, .ref (ca 0)), (2, .ref (ca 5))]) dL_isBook_227 (by decide) rfl ?_
            refine j_iinc B (v := nI (i + 1)) (L' := [(6, .int (nI (i + 1))), (5, .int 1), (3, .int (nI (pgN (fun a => decide (σ 5 a ≠ 0)) (i + 1)))), (9, .int (σ 6 i)), (8, .int (σ 4 i)), (7, .int (σ 3 i)), (4, .int 0), (0, .ref (ad 0)), (1, .ref (ca 0)), (2, .ref (ca 5))]) dL_isBook_229 5 rfl (nI_add _ _) (by decide) rfl ?_
            refine j_goto B 55 dL_isBook_232 (by decide) ?_
            refine j_locals (L' := [(6, .int (nI (i + 1))), (5, .int 1), (4, .int 0), (3, .int (nI (pgN (fun a => decide (σ 5 a ≠ 0)) (i + 1)))), (0, .ref (ad 0)), (1, .ref (ca 0)), (2, .ref (ca 5))]) [0, 1, 6, 2, 7, 8, 9] rfl ?_
            refine j_widen (k := 0 + 10 * (i + 1)) (n := 0 + 60 * (i + 1)) (by omega) (by omega) ?_
            exact ih hlt () (trivial)
          refine j_icmp_ne B 195 dL_isBook_180 (by decide) (fun h22 => ?_) (fun h22 => ?_)
          · refine j_iload B dL_isBook_195 2 rfl ?_
            refine j_iconst B (v := 1) dL_isBook_197 (by decide) ?_
            refine j_icmp_eq B 210 dL_isBook_198 (by decide) (fun h23 => ?_) (fun h23 => ?_)
            · refine j_widen (k := (0 + 10 * i + 9)) (n := (0 + 60 * i + 54)) (by omega) (by omega) ?_
              exact kj20
            · refine j_aload_n B dL_isBook_201 7 rfl rfl ?_
              refine j_iload B dL_isBook_202 4 rfl ?_
              obtain ⟨r24, e25, h26⟩ := pv_done hG (by omega)
              refine j_ask B r24 1 [.int (nI i)] (c_X2_isDone l hl D cD cC cI cZ cL (pvA A ca) σ n ad hG (nI i)) e25 q_272 q_273 q_274 q_1 q_275 hdX2_isDone rfl ⟨Nat.le_of_ble_eq_true rfl, Nat.le_of_ble_eq_true rfl⟩ (Nat.le_of_ble_eq_true rfl) dL_isBook_204 rfl (0 + 10 * i + 9) (0 + 60 * i + 54) ⟨by show _ + 1 ≤ _; omega, by show _ + 6 ≤ _; omega⟩ ⟨(show _ ≤ 620 by omega), (show _ ≤ 3720 by omega)⟩ ?_
              refine j_if_ne B 226 dL_isBook_207 (by decide) (fun h27 => (by clear B hret ih kj20; grind : False).elim) (fun h27 => ?_)
              exact kj20
          · refine j_aload_n B dL_isBook_183 7 rfl rfl ?_
            refine j_iload B dL_isBook_184 4 rfl ?_
            obtain ⟨r28, e29, h30⟩ := pv_done hG (by omega)
            refine j_ask B r28 1 [.int (nI i)] (c_X2_isDone l hl D cD cC cI cZ cL (pvA A ca) σ n ad hG (nI i)) e29 q_272 q_273 q_274 q_1 q_275 hdX2_isDone rfl ⟨Nat.le_of_ble_eq_true rfl, Nat.le_of_ble_eq_true rfl⟩ (Nat.le_of_ble_eq_true rfl) dL_isBook_186 rfl (0 + 10 * i + 9) (0 + 60 * i + 54) ⟨by show _ + 1 ≤ _; omega, by show _ + 6 ≤ _; omega⟩ ⟨(show _ ≤ 620 by omega), (show _ ≤ 3720 by omega)⟩ ?_
            refine j_if_eq B 226 dL_isBook_189 (by decide) (fun h31 => (by clear B hret ih kj20; grind : False).elim) (fun h31 => ?_)
            refine j_goto B 210 dL_isBook_192 (by decide) ?_
            exact kj20
        refine j_icmp_eq B 177 dL_isBook_165 (by decide) (fun h32 => ?_) (fun h32 => ?_)
        · exact kj19
        · refine j_aload_n B dL_isBook_168 9 rfl rfl ?_
          refine j_iload B dL_isBook_169 4 rfl ?_
          refine j_lawI B 2 [.ref (ca 5), .int (nI i)] (c_L_isMissing l hl D cD cC cI cZ cL A σ φ n ad ca f i (by omega)) q_290 q_291 q_0 q_292 hdL_isMissing rfl ⟨Nat.le_of_ble_eq_true rfl, Nat.le_of_ble_eq_true rfl⟩ (Nat.le_of_ble_eq_true rfl) dL_isBook_171 rfl (0 + 10 * i + 8) (0 + 60 * i + 48) ⟨by show _ + 0 ≤ _; omega, by show _ + 0 ≤ _; omega⟩ ⟨(show _ ≤ 620 by omega), (show _ ≤ 3720 by omega)⟩ (fun r33 _ h34 => ?_)
          refine j_if_ne B 226 dL_isBook_174 (by decide) (fun h35 => (by clear B hret ih kj19; grind : False).elim) (fun h35 => ?_)
          exact kj19
      refine j_icmp_eq B 151 dL_isBook_127 (by decide) (fun h36 => ?_) (fun h36 => ?_)
      · refine j_widen (k := (0 + 10 * i + 7)) (n := (0 + 60 * i + 42)) (by omega) (by omega) ?_
        exact kj17
      · obtain ⟨c9, hc9, ec9, ex9, -, -, -⟩ := hcr.resolve_left (fun z => h36 z.1)
        have hD2 := hDi.2.1.resolve_left h36
        rw [ex9] at hD2
        refine j_aload_n B dL_isBook_130 7 rfl rfl ?_
        refine j_iload B dL_isBook_131 3 rfl ?_
        refine j_stack (st2 := [.int (nI c9), .ref (ad 0)]) (by rw [ec9]) ?_
        refine j_ask B (σ 10 c9) 1 [.int (nI c9)] (c_X2_crateKeeper l hl D cD cC cI cZ cL (pvA A ca) σ n ad hG (nI c9)) (pv_askC hc9 10) q_435 q_436 q_437 q_1 q_438 hdX2_crateKeeper rfl ⟨Nat.le_of_ble_eq_true rfl, Nat.le_of_ble_eq_true rfl⟩ (Nat.le_of_ble_eq_true rfl) dL_isBook_133 rfl (0 + 10 * i + 6) (0 + 60 * i + 36) ⟨by show _ + 1 ≤ _; omega, by show _ + 6 ≤ _; omega⟩ ⟨(show _ ≤ 620 by omega), (show _ ≤ 3720 by omega)⟩ ?_
        refine j_aload_n B dL_isBook_136 7 rfl rfl ?_
        refine j_iload B dL_isBook_137 4 rfl ?_
        refine j_ask B (σ 2 i) 1 [.int (nI i)] (c_X2_keeperOf l hl D cD cC cI cZ cL (pvA A ca) σ n ad hG (nI i)) (pv_askD hG (by omega) 2) q_241 q_242 q_243 q_1 q_244 hdX2_keeperOf rfl ⟨Nat.le_of_ble_eq_true rfl, Nat.le_of_ble_eq_true rfl⟩ (Nat.le_of_ble_eq_true rfl) dL_isBook_139 rfl (0 + 10 * i + 7) (0 + 60 * i + 42) ⟨by show _ + 1 ≤ _; omega, by show _ + 6 ≤ _; omega⟩ ⟨(show _ ≤ 620 by omega), (show _ ≤ 3720 by omega)⟩ ?_
        refine j_icmp_ne B 226 dL_isBook_142 (by decide) (fun h37 => (by clear B hret ih kj17; grind : False).elim) (fun h37 => ?_)
        refine j_iload B dL_isBook_145 1 rfl ?_
        refine j_iconst B (v := (-1)) dL_isBook_147 (by decide) ?_
        refine j_icmp_ne B 226 dL_isBook_148 (by decide) (fun h38 => (by clear B hret ih kj17; grind : False).elim) (fun h38 => ?_)
        exact kj17
    rcases h12 with ⟨rfl, h39⟩ | ⟨rfl, h39⟩
    · refine j_if_eq B 106 dL_isBook_99 (by decide) (fun h40 => absurd h40 (by decide)) (fun h40 => ?_)
      refine j_iconst B (v := 1) dL_isBook_102 (by decide) ?_
      refine j_goto B 107 dL_isBook_103 (by decide) ?_
      exact kj13 1 (Or.inl ⟨rfl, by clear B hret ih kj13; grind⟩)
    · refine j_if_eq B 106 dL_isBook_99 (by decide) (fun h41 => ?_) (fun h41 => absurd h41 (by decide))
      refine j_iconst B (v := 0) dL_isBook_106 (by decide) ?_
      exact kj13 0 (Or.inr ⟨rfl, by clear B hret ih kj13; grind⟩)
