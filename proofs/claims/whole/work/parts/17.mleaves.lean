section PGV
variable {p : Program} {l : Launch} {e : Env} {R : Room} {s : State} {m : MethodId} {args : Array Value} {below : List Frame} {meth : Method} {c : Code} {own : String} {cc : ByteArray} {nL : Nat} {D : va_G} {tys : List (ClassId × FieldType)} {A : Nat → Prop} {Wd : Heap → Prop} {cells slots : Nat} {Q : State → Prop} {pc : Nat} {L : List (Nat × Value)} {st : List Value}
theorem j_ialdv (B : pgB p m c s args meth own cc nL D tys A) {a n : Nat} {cA : ClassId} {f : Nat → Int32} (hat : ∀ H, Wd H → va_at D vwCl (a, .inl (cA, n, .inl f)) H) (t0 : Nat) (ht : tys[t0]? = some (cA, .int)) {i v : Int32} (hin : vp_in i n) (hv : f i.toNatClampNeg = v) (hdg : decode cc pc = .ok (.iaload, 1)) (kk : pgJ p l e R s m args below meth c nL A Wd cells slots Q (pc + 1) L (.int v :: st)) : pgJ p l e R s m args below meth c nL A Wd cells slots Q pc L (.int i :: .ref a :: st) := by
  subst hv
  exact j_iald B hat t0 ht hin hdg kk
theorem j_zaldv (B : pgB p m c s args meth own cc nL D tys A) {a n : Nat} {cA : ClassId} {f : Nat → Int32} (hat : ∀ H, Wd H → va_at D vwCl (a, .inl (cA, n, .inl f)) H) (t0 : Nat) (ht : tys[t0]? = some (cA, .boolean)) {i v : Int32} (hin : vp_in i n) (hv : f i.toNatClampNeg = v) (hdg : decode cc pc = .ok (.baload, 1)) (kk : pgJ p l e R s m args below meth c nL A Wd cells slots Q (pc + 1) L (.int v :: st)) : pgJ p l e R s m args below meth c nL A Wd cells slots Q pc L (.int i :: .ref a :: st) := by
  subst hv
  exact j_zald B hat t0 ht hin hdg kk
end PGV
set_option maxHeartbeats 4000000 in
set_option maxRecDepth 100000 in
/-- thrown -/
theorem c_X3_thrown (l : Launch) (D : va_G) (cD cC cI cZ cL : ClassId) (A : Nat → Prop) (σ : pgSt) (ρ : Nat → Int32) (th : Int32) (md : Nat → Nat)  : Met l yX3_thrown (.code yX3_thrown cX3_thrown 1 (some .int) :: pgWd) ({ frames := 0, cells := 0, slots := 0, locals := 0 } : Room) (pgPc D (pgTys cD cC cI cZ cL) A (pgM D cI cZ A σ ρ th md) [.ref (md 0)]) (va_Qi (fun (r : Int32) (_ : Unit) => r = th) (fun _ t9 => pgM D cI cZ A σ ρ th md t9.heap) A) 0 0 A := by
  refine pg_enter (own := RX3) (by decide) rfl (Nat.le_of_ble_eq_true rfl) (fun p e s m below meth cc9 B hr hnm => ?_)
  refine j_aload_n B dX3_thrown_0 0 rfl rfl ?_
  refine j_get B (v := .int th) pgX3 rfl (fun H h => pgM.m h) 18 (by decide) q_523 rfl rfl dX3_thrown_1 ?_
  exact j_iret B hr rfl dX3_thrown_4 (Nat.le_of_ble_eq_true rfl) (Nat.le_of_ble_eq_true rfl) () rfl (fun H h => h)
set_option maxHeartbeats 4000000 in
set_option maxRecDepth 100000 in
/-- can -/
theorem c_X3_can (l : Launch) (D : va_G) (cD cC cI cZ cL : ClassId) (A : Nat → Prop) (σ : pgSt) (ρ : Nat → Int32) (th : Int32) (md : Nat → Nat) (f0 : Int32) : Met l yX3_can (.code yX3_can cX3_can 2 (some .boolean) :: pgWd) ({ frames := 0, cells := 0, slots := 0, locals := 0 } : Room) (pgPc D (pgTys cD cC cI cZ cL) A (pgM D cI cZ A σ ρ th md) [.ref (md 0), .int f0]) (va_Qi (fun (r : Int32) (_ : Unit) => r = if f0 = 0 then 1 else 0) (fun _ t9 => pgM D cI cZ A σ ρ f0 md t9.heap) A) 0 0 A := by
  refine pg_enter (own := RX3) (by decide) rfl (Nat.le_of_ble_eq_true rfl) (fun p e s m below meth cc9 B hr hnm => ?_)
  refine j_fact (fun H h => pgM.inA h) (fun hIn => ?_)
  refine j_aload_n B dX3_can_0 0 rfl rfl ?_
  refine j_iload_n B dX3_can_1 1 rfl rfl ?_
  refine j_put B (Wd' := pgM D cI cZ A σ ρ f0 md) pgX3 tyX3 tyX3_ok nmX3 rfl (fun H h => pgM.m h) 18 (by decide) q_523 rfl rfl rfl rfl rfl (Nat.le_of_ble_eq_true rfl) dX3_can_2 (hIn 0 (by omega)) (fun H H1 h hc hz ho => pgM.putT h pgMs18 hc ho) ?_
  refine j_iload_n B dX3_can_5 1 rfl rfl ?_
  refine j_if_ne B 13 dX3_can_6 (by decide) (fun h1 => ?_) (fun h1 => ?_)
  · refine j_iconst B (v := 0) dX3_can_13 (by decide) ?_
    exact j_iret B hr rfl dX3_can_14 (Nat.le_of_ble_eq_true rfl) (Nat.le_of_ble_eq_true rfl) () (by simp [*]) (fun H h => h)
  · refine j_iconst B (v := 1) dX3_can_9 (by decide) ?_
    refine j_goto B 14 dX3_can_10 (by decide) ?_
    exact j_iret B hr rfl dX3_can_14 (Nat.le_of_ble_eq_true rfl) (Nat.le_of_ble_eq_true rfl) () (by simp [*]) (fun H h => h)
set_option maxHeartbeats 4000000 in
set_option maxRecDepth 100000 in
/-- isIn -/
theorem c_X3_isIn (l : Launch) (D : va_G) (cD cC cI cZ cL : ClassId) (A : Nat → Prop) (σ : pgSt) (ρ : Nat → Int32) (th : Int32) (md : Nat → Nat) (x0 a0 b0 : Int32) : Met l yX3_isIn (.code yX3_isIn cX3_isIn 3 (some .boolean) :: pgWd) ({ frames := 0, cells := 0, slots := 0, locals := 0 } : Room) (pgPc D (pgTys cD cC cI cZ cL) A (pgM D cI cZ A σ ρ th md) [.int x0, .int a0, .int b0]) (va_Qi (fun (r : Int32) (_ : Unit) => r = if a0 ≤ x0 ∧ x0 ≤ b0 then 1 else 0) (fun _ t9 => pgM D cI cZ A σ ρ th md t9.heap) A) 0 0 A := by
  refine pg_enter (own := RX3) (by decide) rfl (Nat.le_of_ble_eq_true rfl) (fun p e s m below meth cc9 B hr hnm => ?_)
  refine j_iload_n B dX3_isIn_0 0 rfl rfl ?_
  refine j_iload_n B dX3_isIn_1 1 rfl rfl ?_
  refine j_icmp_lt B 14 dX3_isIn_2 (by decide) (fun h1 => ?_) (fun h1 => ?_)
  · refine j_iconst B (v := 0) dX3_isIn_14 (by decide) ?_
    exact j_iret B hr rfl dX3_isIn_15 (Nat.le_of_ble_eq_true rfl) (Nat.le_of_ble_eq_true rfl) () (by grind) (fun H h => h)
  · refine j_iload_n B dX3_isIn_5 0 rfl rfl ?_
    refine j_iload_n B dX3_isIn_6 2 rfl rfl ?_
    refine j_icmp_gt B 14 dX3_isIn_7 (by decide) (fun h2 => ?_) (fun h2 => ?_)
    · refine j_iconst B (v := 0) dX3_isIn_14 (by decide) ?_
      exact j_iret B hr rfl dX3_isIn_15 (Nat.le_of_ble_eq_true rfl) (Nat.le_of_ble_eq_true rfl) () (by grind) (fun H h => h)
    · refine j_iconst B (v := 1) dX3_isIn_10 (by decide) ?_
      refine j_goto B 15 dX3_isIn_11 (by decide) ?_
      exact j_iret B hr rfl dX3_isIn_15 (Nat.le_of_ble_eq_true rfl) (Nat.le_of_ble_eq_true rfl) () (by grind) (fun H h => h)
set_option maxHeartbeats 4000000 in
set_option maxRecDepth 100000 in
/-- isKeeper -/
theorem c_X3_isKeeper (l : Launch) (D : va_G) (cD cC cI cZ cL : ClassId) (A : Nat → Prop) (σ : pgSt) (ρ : Nat → Int32) (th : Int32) (md : Nat → Nat) (x0 : Int32) : Met l yX3_isKeeper (.code yX3_isKeeper cX3_isKeeper 1 (some .boolean) :: pgWd) ({ frames := 1, cells := 0, slots := 0, locals := 22 } : Room) (pgPc D (pgTys cD cC cI cZ cL) A (pgM D cI cZ A σ ρ th md) [.int x0]) (va_Qi (fun (r : Int32) (_ : Unit) => r = if pgIsK x0 then 1 else 0) (fun _ t9 => pgM D cI cZ A σ ρ th md t9.heap) A) 0 0 A := by
  refine pg_enter (own := RX3) (by decide) rfl (Nat.le_of_ble_eq_true rfl) (fun p e s m below meth cc9 B hr hnm => ?_)
  refine j_iload_n B dX3_isKeeper_0 0 rfl rfl ?_
  refine j_iconst B (v := 0) dX3_isKeeper_1 (by decide) ?_
  refine j_bipush B (v := 7) dX3_isKeeper_2 (by decide) ?_
  refine j_cSi B (S := Unit) 3 [.int x0, .int 0, .int 7] (WdC' := fun _ => pgM D cI cZ A σ ρ th md) (fun _ => pgM D cI cZ A σ ρ th md) (c_X3_isIn l D cD cC cI cZ cL A σ ρ th md x0 0 7) q_573 q_574 q_3 q_575 hdX3_isIn rfl ⟨Nat.le_of_ble_eq_true rfl, Nat.le_of_ble_eq_true rfl⟩ (Nat.le_of_ble_eq_true rfl) dX3_isKeeper_4 rfl ⟨Nat.le_of_ble_eq_true rfl, Nat.le_of_ble_eq_true rfl⟩ (fun _ h => h) (fun _ _ _ _ h => h) (fun _ h => h) (fun _ _ _ _ h _ _ => h) (fun r1 _ hp2 => ?_)
  by_cases h3 : 0 ≤ x0 ∧ x0 ≤ 7
  · obtain rfl : r1 = 1 := by rw [hp2]; exact if_pos h3
    exact j_iret B hr rfl dX3_isKeeper_7 (Nat.le_of_ble_eq_true rfl) (Nat.le_of_ble_eq_true rfl) () (by grind) (fun H h => h)
  · obtain rfl : r1 = 0 := by rw [hp2]; exact if_neg h3
    exact j_iret B hr rfl dX3_isKeeper_7 (Nat.le_of_ble_eq_true rfl) (Nat.le_of_ble_eq_true rfl) () (by grind) (fun H h => h)
set_option maxHeartbeats 4000000 in
set_option maxRecDepth 100000 in
/-- isCrate -/
theorem c_X3_isCrate (l : Launch) (D : va_G) (cD cC cI cZ cL : ClassId) (A : Nat → Prop) (σ : pgSt) (ρ : Nat → Int32) (th : Int32) (md : Nat → Nat) (x0 : Int32) : Met l yX3_isCrate (.code yX3_isCrate cX3_isCrate 1 (some .boolean) :: pgWd) ({ frames := 1, cells := 0, slots := 0, locals := 22 } : Room) (pgPc D (pgTys cD cC cI cZ cL) A (pgM D cI cZ A σ ρ th md) [.int x0]) (va_Qi (fun (r : Int32) (_ : Unit) => r = if pgIsC x0 then 1 else 0) (fun _ t9 => pgM D cI cZ A σ ρ th md t9.heap) A) 0 0 A := by
  refine pg_enter (own := RX3) (by decide) rfl (Nat.le_of_ble_eq_true rfl) (fun p e s m below meth cc9 B hr hnm => ?_)
  refine j_iload_n B dX3_isCrate_0 0 rfl rfl ?_
  refine j_iconst B (v := 0) dX3_isCrate_1 (by decide) ?_
  refine j_bipush B (v := 9) dX3_isCrate_2 (by decide) ?_
  refine j_cSi B (S := Unit) 3 [.int x0, .int 0, .int 9] (WdC' := fun _ => pgM D cI cZ A σ ρ th md) (fun _ => pgM D cI cZ A σ ρ th md) (c_X3_isIn l D cD cC cI cZ cL A σ ρ th md x0 0 9) q_573 q_574 q_3 q_575 hdX3_isIn rfl ⟨Nat.le_of_ble_eq_true rfl, Nat.le_of_ble_eq_true rfl⟩ (Nat.le_of_ble_eq_true rfl) dX3_isCrate_4 rfl ⟨Nat.le_of_ble_eq_true rfl, Nat.le_of_ble_eq_true rfl⟩ (fun _ h => h) (fun _ _ _ _ h => h) (fun _ h => h) (fun _ _ _ _ h _ _ => h) (fun r1 _ hp2 => ?_)
  by_cases h3 : 0 ≤ x0 ∧ x0 ≤ 9
  · obtain rfl : r1 = 1 := by rw [hp2]; exact if_pos h3
    exact j_iret B hr rfl dX3_isCrate_7 (Nat.le_of_ble_eq_true rfl) (Nat.le_of_ble_eq_true rfl) () (by grind) (fun H h => h)
  · obtain rfl : r1 = 0 := by rw [hp2]; exact if_neg h3
    exact j_iret B hr rfl dX3_isCrate_7 (Nat.le_of_ble_eq_true rfl) (Nat.le_of_ble_eq_true rfl) () (by grind) (fun H h => h)
set_option maxHeartbeats 4000000 in
set_option maxRecDepth 100000 in
/-- isDisk -/
theorem c_X3_isDisk (l : Launch) (D : va_G) (cD cC cI cZ cL : ClassId) (A : Nat → Prop) (σ : pgSt) (ρ : Nat → Int32) (th : Int32) (md : Nat → Nat) (n : Nat) (hI : pgI n σ) (d : Int32) : Met l yX3_isDisk (.code yX3_isDisk cX3_isDisk 2 (some .boolean) :: pgWd) ({ frames := 1, cells := 0, slots := 0, locals := 22 } : Room) (pgPc D (pgTys cD cC cI cZ cL) A (pgM D cI cZ A σ ρ th md) [.ref (md 0), .int d]) (va_Qi (fun (r : Int32) (_ : Unit) => r = if pgIsD σ d then 1 else 0) (fun _ t9 => pgM D cI cZ A σ ρ th md t9.heap) A) 0 0 A := by
  refine pg_enter (own := RX3) (by decide) rfl (Nat.le_of_ble_eq_true rfl) (fun p e s m below meth cc9 B hr hnm => ?_)
  refine j_iload_n B dX3_isDisk_0 1 rfl rfl ?_
  refine j_iconst B (v := 0) dX3_isDisk_1 (by decide) ?_
  refine j_aload_n B dX3_isDisk_2 0 rfl rfl ?_
  refine j_get B (v := .int (σ 13 0)) pgX3 rfl (fun H h => pgM.m h) 0 (by decide) q_505 rfl rfl dX3_isDisk_3 ?_
  refine j_iconst B (v := 1) dX3_isDisk_6 (by decide) ?_
  refine j_isub B dX3_isDisk_7 ?_
  refine j_cSi B (S := Unit) 3 [.int d, .int 0, .int ((σ 13 0) - 1)] (WdC' := fun _ => pgM D cI cZ A σ ρ th md) (fun _ => pgM D cI cZ A σ ρ th md) (c_X3_isIn l D cD cC cI cZ cL A σ ρ th md d 0 ((σ 13 0) - 1)) q_573 q_574 q_3 q_575 hdX3_isIn rfl ⟨Nat.le_of_ble_eq_true rfl, Nat.le_of_ble_eq_true rfl⟩ (Nat.le_of_ble_eq_true rfl) dX3_isDisk_8 rfl ⟨Nat.le_of_ble_eq_true rfl, Nat.le_of_ble_eq_true rfl⟩ (fun _ h => h) (fun _ _ _ _ h => h) (fun _ h => h) (fun _ _ _ _ h _ _ => h) (fun r1 _ hp2 => ?_)
  by_cases h3 : 0 ≤ d ∧ d ≤ ((σ 13 0) - 1)
  · obtain rfl : r1 = 1 := by rw [hp2]; exact if_pos h3
    exact j_iret B hr rfl dX3_isDisk_11 (Nat.le_of_ble_eq_true rfl) (Nat.le_of_ble_eq_true rfl) () (by have q := pg_isD (d := d) hI; grind) (fun H h => h)
  · obtain rfl : r1 = 0 := by rw [hp2]; exact if_neg h3
    exact j_iret B hr rfl dX3_isDisk_11 (Nat.le_of_ble_eq_true rfl) (Nat.le_of_ble_eq_true rfl) () (by have q := pg_isD (d := d) hI; grind) (fun H h => h)
set_option maxHeartbeats 4000000 in
set_option maxRecDepth 100000 in
/-- isShut -/
theorem c_X3_isShut (l : Launch) (D : va_G) (cD cC cI cZ cL : ClassId) (A : Nat → Prop) (σ : pgSt) (ρ : Nat → Int32) (th : Int32) (md : Nat → Nat) (n : Nat) (hI : pgI n σ) (d : Int32) (hD : pgIsD σ d) : Met l yX3_isShut (.code yX3_isShut cX3_isShut 2 (some .boolean) :: pgWd) ({ frames := 0, cells := 0, slots := 0, locals := 0 } : Room) (pgPc D (pgTys cD cC cI cZ cL) A (pgM D cI cZ A σ ρ th md) [.ref (md 0), .int d]) (va_Qi (fun (r : Int32) (_ : Unit) => r = if pgShut σ (ix d) then 1 else 0) (fun _ t9 => pgM D cI cZ A σ ρ th md t9.heap) A) 0 0 A := by
  refine pg_enter (own := RX3) (by decide) rfl (Nat.le_of_ble_eq_true rfl) (fun p e s m below meth cc9 B hr hnm => ?_)
  refine j_aload_n B dX3_isShut_0 0 rfl rfl ?_
  refine j_get B (v := .ref (md 4)) pgX3 rfl (fun H h => pgM.m h) 4 (by decide) q_509 rfl rfl dX3_isShut_1 ?_
  refine j_iload_n B dX3_isShut_4 1 rfl rfl ?_
  refine j_ialdv B (fun H h => pgM.a4 h) 2 rfl (pg_inD hI hD) (v := σ 3 (ix d)) rfl dX3_isShut_5 ?_
  refine j_iconst B (v := (-1)) dX3_isShut_6 (by decide) ?_
  refine j_icmp_eq B 29 dX3_isShut_7 (by decide) (fun h1 => ?_) (fun h1 => ?_)
  · refine j_iconst B (v := 0) dX3_isShut_29 (by decide) ?_
    exact j_iret B hr rfl dX3_isShut_30 (Nat.le_of_ble_eq_true rfl) (Nat.le_of_ble_eq_true rfl) () (by grind) (fun H h => h)
  · refine j_aload_n B dX3_isShut_10 0 rfl rfl ?_
    refine j_get B (v := .ref (md 12)) pgX3 rfl (fun H h => pgM.m h) 12 (by decide) q_517 rfl rfl dX3_isShut_11 ?_
    refine j_aload_n B dX3_isShut_14 0 rfl rfl ?_
    refine j_get B (v := .ref (md 4)) pgX3 rfl (fun H h => pgM.m h) 4 (by decide) q_509 rfl rfl dX3_isShut_15 ?_
    refine j_iload_n B dX3_isShut_18 1 rfl rfl ?_
    refine j_ialdv B (fun H h => pgM.a4 h) 2 rfl (pg_inD hI hD) (v := σ 3 (ix d)) rfl dX3_isShut_19 ?_
    refine j_ialdv B (fun H h => pgM.a12 h) 2 rfl (pg_inCr hI (pgIsD.at hI hD).1 (by assumption)) (v := σ 11 (ix (σ 3 (ix d)))) rfl dX3_isShut_20 ?_
    refine j_iconst B (v := (-1)) dX3_isShut_21 (by decide) ?_
    refine j_icmp_eq B 29 dX3_isShut_22 (by decide) (fun h2 => ?_) (fun h2 => ?_)
    · refine j_iconst B (v := 0) dX3_isShut_29 (by decide) ?_
      exact j_iret B hr rfl dX3_isShut_30 (Nat.le_of_ble_eq_true rfl) (Nat.le_of_ble_eq_true rfl) () (by grind) (fun H h => h)
    · refine j_iconst B (v := 1) dX3_isShut_25 (by decide) ?_
      refine j_goto B 30 dX3_isShut_26 (by decide) ?_
      exact j_iret B hr rfl dX3_isShut_30 (Nat.le_of_ble_eq_true rfl) (Nat.le_of_ble_eq_true rfl) () (by grind) (fun H h => h)
set_option maxHeartbeats 4000000 in
set_option maxRecDepth 100000 in
/-- isBarred -/
theorem c_X3_isBarred (l : Launch) (D : va_G) (cD cC cI cZ cL : ClassId) (A : Nat → Prop) (σ : pgSt) (ρ : Nat → Int32) (th : Int32) (md : Nat → Nat) (n : Nat) (hI : pgI n σ) (d : Int32) (hD : pgIsD σ d) : Met l yX3_isBarred (.code yX3_isBarred cX3_isBarred 2 (some .boolean) :: pgWd) ({ frames := 1, cells := 0, slots := 0, locals := 21 } : Room) (pgPc D (pgTys cD cC cI cZ cL) A (pgM D cI cZ A σ ρ th md) [.ref (md 0), .int d]) (va_Qi (fun (r : Int32) (_ : Unit) => r = if ¬ pgReach σ (ix d) then 1 else 0) (fun _ t9 => pgM D cI cZ A σ ρ th md t9.heap) A) 0 0 A := by
  refine pg_enter (own := RX3) (by decide) rfl (Nat.le_of_ble_eq_true rfl) (fun p e s m below meth cc9 B hr hnm => ?_)
  refine j_aload_n B dX3_isBarred_0 0 rfl rfl ?_
  refine j_get B (v := .ref (md 6)) pgX3 rfl (fun H h => pgM.m h) 6 (by decide) q_511 rfl rfl dX3_isBarred_1 ?_
  refine j_iload_n B dX3_isBarred_4 1 rfl rfl ?_
  refine j_zaldv B (fun H h => pgM.a6 h) 3 rfl (pg_inD hI hD) (v := σ 5 (ix d)) rfl dX3_isBarred_5 ?_
  refine j_if_ne B 27 dX3_isBarred_6 (by decide) (fun h1 => ?_) (fun h1 => ?_)
  · refine j_iconst B (v := 1) dX3_isBarred_27 (by decide) ?_
    refine j_goto B 32 dX3_isBarred_28 (by decide) ?_
    exact j_iret B hr rfl dX3_isBarred_32 (Nat.le_of_ble_eq_true rfl) (Nat.le_of_ble_eq_true rfl) () (by grind) (fun H h => h)
  · refine j_aload_n B dX3_isBarred_9 0 rfl rfl ?_
    refine j_get B (v := .ref (md 7)) pgX3 rfl (fun H h => pgM.m h) 7 (by decide) q_512 rfl rfl dX3_isBarred_10 ?_
    refine j_iload_n B dX3_isBarred_13 1 rfl rfl ?_
    refine j_ialdv B (fun H h => pgM.a7 h) 2 rfl (pg_inD hI hD) (v := σ 6 (ix d)) rfl dX3_isBarred_14 ?_
    refine j_iconst B (v := (-1)) dX3_isBarred_15 (by decide) ?_
    refine j_icmp_ne B 27 dX3_isBarred_16 (by decide) (fun h2 => ?_) (fun h2 => ?_)
    · refine j_iconst B (v := 1) dX3_isBarred_27 (by decide) ?_
      refine j_goto B 32 dX3_isBarred_28 (by decide) ?_
      exact j_iret B hr rfl dX3_isBarred_32 (Nat.le_of_ble_eq_true rfl) (Nat.le_of_ble_eq_true rfl) () (by grind) (fun H h => h)
    · refine j_aload_n B dX3_isBarred_19 0 rfl rfl ?_
      refine j_iload_n B dX3_isBarred_20 1 rfl rfl ?_
      refine j_cVi B (S := Unit) 1 [.int d] (WdC' := fun _ => pgM D cI cZ A σ ρ th md) (fun _ => pgM D cI cZ A σ ρ th md) (c_X3_isShut l D cD cC cI cZ cL A σ ρ th md n hI d hD) rfl (fun H h => pgM.m h) q_595 q_597 q_p9 q_3 q_598 hdX3_isShut rfl ⟨Nat.le_of_ble_eq_true rfl, Nat.le_of_ble_eq_true rfl⟩ (Nat.le_of_ble_eq_true rfl) dX3_isBarred_21 rfl ⟨Nat.le_of_ble_eq_true rfl, Nat.le_of_ble_eq_true rfl⟩ (fun _ h => h) (fun _ _ _ _ h => h) (fun _ h => h) (fun _ _ _ _ h _ _ => h) (fun r3 _ hp4 => ?_)
      by_cases h5 : pgShut σ (ix d)
      · obtain rfl : r3 = 1 := by rw [hp4]; exact if_pos h5
        refine j_if_eq B 31 dX3_isBarred_24 (by decide) (fun h6 => (absurd h6 (by decide))) (fun h6 => ?_)
        refine j_iconst B (v := 1) dX3_isBarred_27 (by decide) ?_
        refine j_goto B 32 dX3_isBarred_28 (by decide) ?_
        exact j_iret B hr rfl dX3_isBarred_32 (Nat.le_of_ble_eq_true rfl) (Nat.le_of_ble_eq_true rfl) () (by grind) (fun H h => h)
      · obtain rfl : r3 = 0 := by rw [hp4]; exact if_neg h5
        refine j_if_eq B 31 dX3_isBarred_24 (by decide) (fun h7 => ?_) (fun h7 => (absurd (by decide) h7))
        refine j_iconst B (v := 0) dX3_isBarred_31 (by decide) ?_
        exact j_iret B hr rfl dX3_isBarred_32 (Nat.le_of_ble_eq_true rfl) (Nat.le_of_ble_eq_true rfl) () (by grind) (fun H h => h)
set_option maxHeartbeats 4000000 in
set_option maxRecDepth 100000 in
/-- isOver -/
theorem c_X3_isOver (l : Launch) (D : va_G) (cD cC cI cZ cL : ClassId) (A : Nat → Prop) (σ : pgSt) (ρ : Nat → Int32) (th : Int32) (md : Nat → Nat) (i9 : Int32) (hin9 : vp_in i9 60) : Met l yX3_isOver (.code yX3_isOver cX3_isOver 2 (some .boolean) :: pgWd) ({ frames := 0, cells := 0, slots := 0, locals := 0 } : Room) (pgPc D (pgTys cD cC cI cZ cL) A (pgM D cI cZ A σ ρ th md) [.ref (md 0), .int i9]) (va_Qi (fun (r : Int32) (_ : Unit) => r = if pgFin σ (ix i9) then 1 else 0) (fun _ t9 => pgM D cI cZ A σ ρ th md t9.heap) A) 0 0 A := by
  refine pg_enter (own := RX3) (by decide) rfl (Nat.le_of_ble_eq_true rfl) (fun p e s m below meth cc9 B hr hnm => ?_)
  refine j_aload_n B dX3_isOver_0 0 rfl rfl ?_
  refine j_get B (v := .ref (md 5)) pgX3 rfl (fun H h => pgM.m h) 5 (by decide) q_510 rfl rfl dX3_isOver_1 ?_
  refine j_iload_n B dX3_isOver_4 1 rfl rfl ?_
  refine j_ialdv B (fun H h => pgM.a5 h) 2 rfl hin9 (v := σ 4 (ix i9)) rfl dX3_isOver_5 ?_
  refine j_iconst B (v := 3) dX3_isOver_6 (by decide) ?_
  refine j_icmp_eq B 29 dX3_isOver_7 (by decide) (fun h1 => ?_) (fun h1 => ?_)
  · refine j_iconst B (v := 1) dX3_isOver_29 (by decide) ?_
    refine j_goto B 34 dX3_isOver_30 (by decide) ?_
    exact j_iret B hr rfl dX3_isOver_34 (Nat.le_of_ble_eq_true rfl) (Nat.le_of_ble_eq_true rfl) () (by grind) (fun H h => h)
  · refine j_aload_n B dX3_isOver_10 0 rfl rfl ?_
    refine j_get B (v := .ref (md 5)) pgX3 rfl (fun H h => pgM.m h) 5 (by decide) q_510 rfl rfl dX3_isOver_11 ?_
    refine j_iload_n B dX3_isOver_14 1 rfl rfl ?_
    refine j_ialdv B (fun H h => pgM.a5 h) 2 rfl hin9 (v := σ 4 (ix i9)) rfl dX3_isOver_15 ?_
    refine j_iconst B (v := 1) dX3_isOver_16 (by decide) ?_
    refine j_icmp_ne B 33 dX3_isOver_17 (by decide) (fun h2 => ?_) (fun h2 => ?_)
    · refine j_iconst B (v := 0) dX3_isOver_33 (by decide) ?_
      exact j_iret B hr rfl dX3_isOver_34 (Nat.le_of_ble_eq_true rfl) (Nat.le_of_ble_eq_true rfl) () (by grind) (fun H h => h)
    · refine j_aload_n B dX3_isOver_20 0 rfl rfl ?_
      refine j_get B (v := .ref (md 9)) pgX3 rfl (fun H h => pgM.m h) 9 (by decide) q_514 rfl rfl dX3_isOver_21 ?_
      refine j_iload_n B dX3_isOver_24 1 rfl rfl ?_
      refine j_zaldv B (fun H h => pgM.a9 h) 3 rfl hin9 (v := σ 8 (ix i9)) rfl dX3_isOver_25 ?_
      refine j_if_eq B 33 dX3_isOver_26 (by decide) (fun h3 => ?_) (fun h3 => ?_)
      · refine j_iconst B (v := 0) dX3_isOver_33 (by decide) ?_
        exact j_iret B hr rfl dX3_isOver_34 (Nat.le_of_ble_eq_true rfl) (Nat.le_of_ble_eq_true rfl) () (by grind) (fun H h => h)
      · refine j_iconst B (v := 1) dX3_isOver_29 (by decide) ?_
        refine j_goto B 34 dX3_isOver_30 (by decide) ?_
        exact j_iret B hr rfl dX3_isOver_34 (Nat.le_of_ble_eq_true rfl) (Nat.le_of_ble_eq_true rfl) () (by grind) (fun H h => h)
set_option maxHeartbeats 4000000 in
set_option maxRecDepth 100000 in
/-- isAsked -/
theorem c_X3_isAsked (l : Launch) (D : va_G) (cD cC cI cZ cL : ClassId) (A : Nat → Prop) (σ : pgSt) (ρ : Nat → Int32) (th : Int32) (md : Nat → Nat) (n : Nat) (hI : pgI n σ) (d : Int32) : Met l yX3_isAsked (.code yX3_isAsked cX3_isAsked 2 (some .boolean) :: pgWd) ({ frames := 2, cells := 0, slots := 0, locals := 43 } : Room) (pgPc D (pgTys cD cC cI cZ cL) A (pgM D cI cZ A σ ρ th md) [.ref (md 0), .int d]) (va_Qi (fun (r : Int32) (_ : Unit) => r = if pgIsD σ d then 1 else 0) (fun _ t9 => pgM D cI cZ A σ ρ (if pgIsD σ d then 0 else 1) md t9.heap) A) 0 0 A := by
  refine pg_enter (own := RX3) (by decide) rfl (Nat.le_of_ble_eq_true rfl) (fun p e s m below meth cc9 B hr hnm => ?_)
  refine j_aload_n B dX3_isAsked_0 0 rfl rfl ?_
  refine j_aload_n B dX3_isAsked_1 0 rfl rfl ?_
  refine j_iload_n B dX3_isAsked_2 1 rfl rfl ?_
  refine j_cVi B (S := Unit) 1 [.int d] (WdC' := fun _ => pgM D cI cZ A σ ρ th md) (fun _ => pgM D cI cZ A σ ρ th md) (c_X3_isDisk l D cD cC cI cZ cL A σ ρ th md n hI d) rfl (fun H h => pgM.m h) q_587 q_589 q_p7 q_3 q_590 hdX3_isDisk rfl ⟨Nat.le_of_ble_eq_true rfl, Nat.le_of_ble_eq_true rfl⟩ (Nat.le_of_ble_eq_true rfl) dX3_isAsked_3 rfl ⟨Nat.le_of_ble_eq_true rfl, Nat.le_of_ble_eq_true rfl⟩ (fun _ h => h) (fun _ _ _ _ h => h) (fun _ h => h) (fun _ _ _ _ h _ _ => h) (fun r1 _ hp2 => ?_)
  by_cases h3 : pgIsD σ d
  · obtain rfl : r1 = 1 := by rw [hp2]; exact if_pos h3
    refine j_if_eq B 13 dX3_isAsked_6 (by decide) (fun h4 => (absurd h4 (by decide))) (fun h4 => ?_)
    refine j_iconst B (v := 0) dX3_isAsked_9 (by decide) ?_
    refine j_goto B 14 dX3_isAsked_10 (by decide) ?_
    refine j_cVi B (S := Unit) 1 [.int 0] (WdC' := fun _ => pgM D cI cZ A σ ρ 0 md) (fun _ => pgM D cI cZ A σ ρ 0 md) (c_X3_can l D cD cC cI cZ cL A σ ρ th md 0) rfl (fun H h => pgM.m h) q_579 q_581 q_p6 q_3 q_582 hdX3_can rfl ⟨Nat.le_of_ble_eq_true rfl, Nat.le_of_ble_eq_true rfl⟩ (Nat.le_of_ble_eq_true rfl) dX3_isAsked_14 rfl ⟨Nat.le_of_ble_eq_true rfl, Nat.le_of_ble_eq_true rfl⟩ (fun _ h => h) (fun _ _ _ _ h => h) (fun _ h => h) (fun _ _ _ _ h _ _ => h) (fun r5 _ hp6 => ?_)
    obtain rfl : r5 = 1 := by rw [hp6]; rfl
    exact j_iret B hr rfl dX3_isAsked_17 (Nat.le_of_ble_eq_true rfl) (Nat.le_of_ble_eq_true rfl) () (if_pos (by assumption)).symm (fun H h => by rw [if_pos (by assumption)]; exact h)
  · obtain rfl : r1 = 0 := by rw [hp2]; exact if_neg h3
    refine j_if_eq B 13 dX3_isAsked_6 (by decide) (fun h7 => ?_) (fun h7 => (absurd (by decide) h7))
    refine j_iconst B (v := 1) dX3_isAsked_13 (by decide) ?_
    refine j_cVi B (S := Unit) 1 [.int 1] (WdC' := fun _ => pgM D cI cZ A σ ρ 1 md) (fun _ => pgM D cI cZ A σ ρ 1 md) (c_X3_can l D cD cC cI cZ cL A σ ρ th md 1) rfl (fun H h => pgM.m h) q_579 q_581 q_p6 q_3 q_582 hdX3_can rfl ⟨Nat.le_of_ble_eq_true rfl, Nat.le_of_ble_eq_true rfl⟩ (Nat.le_of_ble_eq_true rfl) dX3_isAsked_14 rfl ⟨Nat.le_of_ble_eq_true rfl, Nat.le_of_ble_eq_true rfl⟩ (fun _ h => h) (fun _ _ _ _ h => h) (fun _ h => h) (fun _ _ _ _ h _ _ => h) (fun r8 _ hp9 => ?_)
    obtain rfl : r8 = 0 := by rw [hp9]; rfl
    exact j_iret B hr rfl dX3_isAsked_17 (Nat.le_of_ble_eq_true rfl) (Nat.le_of_ble_eq_true rfl) () (if_neg (by assumption)).symm (fun H h => by rw [if_neg (by assumption)]; exact h)
