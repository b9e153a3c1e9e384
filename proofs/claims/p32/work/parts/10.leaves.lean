set_option maxHeartbeats 4000000 in
set_option maxRecDepth 100000 in
/-- Crate.isSealed -/
theorem c_X0_isSealed (l : Launch) (D : va_G) (cD cC cI cZ cL : ClassId) (A : Nat → Prop) (σ : pgSt) (n : Nat) (ad : Nat → Nat) (c : Nat) (hc : c < 10) : Met l yX0_isSealed (.code yX0_isSealed cX0_isSealed 1 (some .boolean) :: pgWd) ({ frames := 0, cells := 0, slots := 0, locals := 0 } : Room) (pgPc D (pgTys cD cC cI cZ cL) A (pgR D cD cC A σ n ad) [.ref (ad (3 + c))]) (va_Qi (fun (r : Int32) (_ : Unit) => r = if ¬ σ 11 c = -1 then 1 else 0) (fun _ t9 => pgR D cD cC A σ n ad t9.heap) A) 0 0 A := by
  refine pg_enter (own := RX0) (by decide) rfl (Nat.le_of_ble_eq_true rfl) (fun p e s m below meth cc9 B hr hnm => ?_)
  refine j_aload_n B dX0_isSealed_0 0 rfl rfl ?_
  refine j_get B (v := .int (σ 11 c)) pgX0 rfl (fun H h => pgR.cr h hc) 2 (by decide) q_35 rfl rfl dX0_isSealed_1 ?_
  refine j_iconst B (v := (-1)) dX0_isSealed_4 (by decide) ?_
  refine j_icmp_eq B 12 dX0_isSealed_5 (by decide) (fun h1 => ?_) (fun h1 => ?_)
  · refine j_iconst B (v := 0) dX0_isSealed_12 (by decide) ?_
    exact j_iret B hr rfl dX0_isSealed_13 (Nat.le_of_ble_eq_true rfl) (Nat.le_of_ble_eq_true rfl) () (by simp [*]) (fun H h => h)
  · refine j_iconst B (v := 1) dX0_isSealed_8 (by decide) ?_
    refine j_goto B 13 dX0_isSealed_9 (by decide) ?_
    exact j_iret B hr rfl dX0_isSealed_13 (Nat.le_of_ble_eq_true rfl) (Nat.le_of_ble_eq_true rfl) () (by simp [*]) (fun H h => h)
set_option maxHeartbeats 4000000 in
set_option maxRecDepth 100000 in
/-- Disk.crateNumber -/
theorem c_X1_crateNumber (l : Launch) (D : va_G) (cD cC cI cZ cL : ClassId) (A : Nat → Prop) (σ : pgSt) (n : Nat) (ad : Nat → Nat) (j : Nat) (hj : j < n) (hcr : pgCr n σ) : Met l yX1_crateNumber (.code yX1_crateNumber cX1_crateNumber 1 (some .int) :: pgWd) ({ frames := 0, cells := 0, slots := 0, locals := 0 } : Room) (pgPc D (pgTys cD cC cI cZ cL) A (pgR D cD cC A σ n ad) [.ref (ad (13 + j))]) (va_Qi (fun (r : Int32) (_ : Unit) => r = σ 3 j) (fun _ t9 => pgR D cD cC A σ n ad t9.heap) A) 0 0 A := by
  refine pg_enter (own := RX1) (by decide) rfl (Nat.le_of_ble_eq_true rfl) (fun p e s m below meth cc9 B hr hnm => ?_)
  refine j_aload_n B dX1_crateNumber_0 0 rfl rfl ?_
  rcases hcr j hj with e3 | ⟨c1, hc2, e3⟩
  · refine j_get B (v := .null) pgX1 rfl (fun H h => pgR.dk h hj) 4 (by decide) q_200 rfl (congrArg some (pgCv_null e3)) dX1_crateNumber_1 ?_
    refine j_ifnonnullN B dX1_crateNumber_4 ?_
    refine j_iconst B (v := (-1)) dX1_crateNumber_7 (by decide) ?_
    refine j_goto B 18 dX1_crateNumber_8 (by decide) ?_
    exact j_iret B hr rfl dX1_crateNumber_18 (Nat.le_of_ble_eq_true rfl) (Nat.le_of_ble_eq_true rfl) () (by simp [*]) (fun H h => h)
  · have xe3 := pgCx hc2 e3
    refine j_get B (v := .ref (ad (3 + c1))) pgX1 rfl (fun H h => pgR.dk h hj) 4 (by decide) q_200 rfl (congrArg some (pgCv_ref hc2 e3)) dX1_crateNumber_1 ?_
    refine j_ifnonnull B 11 dX1_crateNumber_4 (by decide) ?_
    refine j_aload_n B dX1_crateNumber_11 0 rfl rfl ?_
    refine j_get B (v := .ref (ad (3 + c1))) pgX1 rfl (fun H h => pgR.dk h hj) 4 (by decide) q_200 rfl (congrArg some (pgCv_ref hc2 e3)) dX1_crateNumber_12 ?_
    refine j_get B (v := .int (nI c1)) pgX0 rfl (fun H h => pgR.cr h hc2) 0 (by decide) q_32 rfl rfl dX1_crateNumber_15 ?_
    exact j_iret B hr rfl dX1_crateNumber_18 (Nat.le_of_ble_eq_true rfl) (Nat.le_of_ble_eq_true rfl) () (by simp [*]) (fun H h => h)
set_option maxHeartbeats 4000000 in
set_option maxRecDepth 100000 in
/-- Disk.isSealedIn -/
theorem c_X1_isSealedIn (l : Launch) (D : va_G) (cD cC cI cZ cL : ClassId) (A : Nat → Prop) (σ : pgSt) (n : Nat) (ad : Nat → Nat) (j : Nat) (hj : j < n) (hcr : pgCr n σ) : Met l yX1_isSealedIn (.code yX1_isSealedIn cX1_isSealedIn 1 (some .boolean) :: pgWd) ({ frames := 1, cells := 0, slots := 0, locals := 20 } : Room) (pgPc D (pgTys cD cC cI cZ cL) A (pgR D cD cC A σ n ad) [.ref (ad (13 + j))]) (va_Qi (fun (r : Int32) (_ : Unit) => r = if pgShut σ j then 1 else 0) (fun _ t9 => pgR D cD cC A σ n ad t9.heap) A) 0 0 A := by
  refine pg_enter (own := RX1) (by decide) rfl (Nat.le_of_ble_eq_true rfl) (fun p e s m below meth cc9 B hr hnm => ?_)
  refine j_aload_n B dX1_isSealedIn_0 0 rfl rfl ?_
  rcases hcr j hj with e3 | ⟨c1, hc2, e3⟩
  · refine j_get B (v := .null) pgX1 rfl (fun H h => pgR.dk h hj) 4 (by decide) q_200 rfl (congrArg some (pgCv_null e3)) dX1_isSealedIn_1 ?_
    refine j_ifnullN B 21 dX1_isSealedIn_4 (by decide) ?_
    refine j_iconst B (v := 0) dX1_isSealedIn_21 (by decide) ?_
    exact j_iret B hr rfl dX1_isSealedIn_22 (Nat.le_of_ble_eq_true rfl) (Nat.le_of_ble_eq_true rfl) () (by grind) (fun H h => h)
  · have xe3 := pgCx hc2 e3
    refine j_get B (v := .ref (ad (3 + c1))) pgX1 rfl (fun H h => pgR.dk h hj) 4 (by decide) q_200 rfl (congrArg some (pgCv_ref hc2 e3)) dX1_isSealedIn_1 ?_
    refine j_ifnull B dX1_isSealedIn_4 ?_
    refine j_aload_n B dX1_isSealedIn_7 0 rfl rfl ?_
    refine j_get B (v := .ref (ad (3 + c1))) pgX1 rfl (fun H h => pgR.dk h hj) 4 (by decide) q_200 rfl (congrArg some (pgCv_ref hc2 e3)) dX1_isSealedIn_8 ?_
    refine j_cVi B (S := Unit) 0 [] (WdC' := fun _ => pgR D cD cC A σ n ad) (fun _ => pgR D cD cC A σ n ad) (c_X0_isSealed l D cD cC cI cZ cL A σ n ad c1 hc2) rfl (fun H h => pgR.cr h hc2) q_359 q_330 q_331 q_2 q_332 hdX0_isSealed rfl ⟨Nat.le_of_ble_eq_true rfl, Nat.le_of_ble_eq_true rfl⟩ (Nat.le_of_ble_eq_true rfl) dX1_isSealedIn_11 rfl ⟨Nat.le_of_ble_eq_true rfl, Nat.le_of_ble_eq_true rfl⟩ (fun _ h => h) (fun _ _ _ _ h => h) (fun _ h => h) (fun _ _ _ _ h _ _ => h) (fun r4 _ hp5 => ?_)
    by_cases h6 : ¬ σ 11 c1 = -1
    · obtain rfl : r4 = 1 := by rw [hp5]; exact if_pos h6
      refine j_if_eq B 21 dX1_isSealedIn_14 (by decide) (fun h7 => (absurd h7 (by decide))) (fun h7 => ?_)
      refine j_iconst B (v := 1) dX1_isSealedIn_17 (by decide) ?_
      refine j_goto B 22 dX1_isSealedIn_18 (by decide) ?_
      exact j_iret B hr rfl dX1_isSealedIn_22 (Nat.le_of_ble_eq_true rfl) (Nat.le_of_ble_eq_true rfl) () (by grind) (fun H h => h)
    · obtain rfl : r4 = 0 := by rw [hp5]; exact if_neg h6
      refine j_if_eq B 21 dX1_isSealedIn_14 (by decide) (fun h8 => ?_) (fun h8 => (absurd (by decide) h8))
      refine j_iconst B (v := 0) dX1_isSealedIn_21 (by decide) ?_
      exact j_iret B hr rfl dX1_isSealedIn_22 (Nat.le_of_ble_eq_true rfl) (Nat.le_of_ble_eq_true rfl) () (by grind) (fun H h => h)
set_option maxHeartbeats 4000000 in
set_option maxRecDepth 100000 in
/-- Disk.isFinished -/
theorem c_X1_isFinished (l : Launch) (D : va_G) (cD cC cI cZ cL : ClassId) (A : Nat → Prop) (σ : pgSt) (n : Nat) (ad : Nat → Nat) (j : Nat) (hj : j < n) : Met l yX1_isFinished (.code yX1_isFinished cX1_isFinished 1 (some .boolean) :: pgWd) ({ frames := 0, cells := 0, slots := 0, locals := 0 } : Room) (pgPc D (pgTys cD cC cI cZ cL) A (pgR D cD cC A σ n ad) [.ref (ad (13 + j))]) (va_Qi (fun (r : Int32) (_ : Unit) => r = if pgFin σ j then 1 else 0) (fun _ t9 => pgR D cD cC A σ n ad t9.heap) A) 0 0 A := by
  refine pg_enter (own := RX1) (by decide) rfl (Nat.le_of_ble_eq_true rfl) (fun p e s m below meth cc9 B hr hnm => ?_)
  refine j_aload_n B dX1_isFinished_0 0 rfl rfl ?_
  refine j_get B (v := .int (σ 4 j)) pgX1 rfl (fun H h => pgR.dk h hj) 6 (by decide) q_204 rfl rfl dX1_isFinished_1 ?_
  refine j_iconst B (v := 3) dX1_isFinished_4 (by decide) ?_
  refine j_icmp_eq B 23 dX1_isFinished_5 (by decide) (fun h1 => ?_) (fun h1 => ?_)
  · refine j_iconst B (v := 1) dX1_isFinished_23 (by decide) ?_
    refine j_goto B 28 dX1_isFinished_24 (by decide) ?_
    exact j_iret B hr rfl dX1_isFinished_28 (Nat.le_of_ble_eq_true rfl) (Nat.le_of_ble_eq_true rfl) () (by grind) (fun H h => h)
  · refine j_aload_n B dX1_isFinished_8 0 rfl rfl ?_
    refine j_get B (v := .int (σ 4 j)) pgX1 rfl (fun H h => pgR.dk h hj) 6 (by decide) q_204 rfl rfl dX1_isFinished_9 ?_
    refine j_iconst B (v := 1) dX1_isFinished_12 (by decide) ?_
    refine j_icmp_ne B 27 dX1_isFinished_13 (by decide) (fun h2 => ?_) (fun h2 => ?_)
    · refine j_iconst B (v := 0) dX1_isFinished_27 (by decide) ?_
      exact j_iret B hr rfl dX1_isFinished_28 (Nat.le_of_ble_eq_true rfl) (Nat.le_of_ble_eq_true rfl) () (by grind) (fun H h => h)
    · refine j_aload_n B dX1_isFinished_16 0 rfl rfl ?_
      refine j_get B (v := .int (σ 8 j)) pgX1 rfl (fun H h => pgR.dk h hj) 8 (by decide) q_208 rfl rfl dX1_isFinished_17 ?_
      refine j_if_eq B 27 dX1_isFinished_20 (by decide) (fun h3 => ?_) (fun h3 => ?_)
      · refine j_iconst B (v := 0) dX1_isFinished_27 (by decide) ?_
        exact j_iret B hr rfl dX1_isFinished_28 (Nat.le_of_ble_eq_true rfl) (Nat.le_of_ble_eq_true rfl) () (by grind) (fun H h => h)
      · refine j_iconst B (v := 1) dX1_isFinished_23 (by decide) ?_
        refine j_goto B 28 dX1_isFinished_24 (by decide) ?_
        exact j_iret B hr rfl dX1_isFinished_28 (Nat.le_of_ble_eq_true rfl) (Nat.le_of_ble_eq_true rfl) () (by grind) (fun H h => h)
set_option maxHeartbeats 4000000 in
set_option maxRecDepth 100000 in
/-- Disk.awaitsCertificate -/
theorem c_X1_awaitsCertificate (l : Launch) (D : va_G) (cD cC cI cZ cL : ClassId) (A : Nat → Prop) (σ : pgSt) (n : Nat) (ad : Nat → Nat) (j : Nat) (hj : j < n) : Met l yX1_awaitsCertificate (.code yX1_awaitsCertificate cX1_awaitsCertificate 1 (some .boolean) :: pgWd) ({ frames := 1, cells := 0, slots := 0, locals := 20 } : Room) (pgPc D (pgTys cD cC cI cZ cL) A (pgR D cD cC A σ n ad) [.ref (ad (13 + j))]) (va_Qi (fun (r : Int32) (_ : Unit) => r = if pgAw σ j then 1 else 0) (fun _ t9 => pgR D cD cC A σ n ad t9.heap) A) 0 0 A := by
  refine pg_enter (own := RX1) (by decide) rfl (Nat.le_of_ble_eq_true rfl) (fun p e s m below meth cc9 B hr hnm => ?_)
  refine j_aload_n B dX1_awaitsCertificate_0 0 rfl rfl ?_
  refine j_cVi B (S := Unit) 0 [] (WdC' := fun _ => pgR D cD cC A σ n ad) (fun _ => pgR D cD cC A σ n ad) (c_X1_isFinished l D cD cC cI cZ cL A σ n ad j hj) rfl (fun H h => pgR.dk h hj) q_412 q_277 q_278 q_9 q_279 hdX1_isFinished rfl ⟨Nat.le_of_ble_eq_true rfl, Nat.le_of_ble_eq_true rfl⟩ (Nat.le_of_ble_eq_true rfl) dX1_awaitsCertificate_1 rfl ⟨Nat.le_of_ble_eq_true rfl, Nat.le_of_ble_eq_true rfl⟩ (fun _ h => h) (fun _ _ _ _ h => h) (fun _ h => h) (fun _ _ _ _ h _ _ => h) (fun r1 _ hp2 => ?_)
  by_cases h3 : pgFin σ j
  · obtain rfl : r1 = 1 := by rw [hp2]; exact if_pos h3
    refine j_if_eq B 26 dX1_awaitsCertificate_4 (by decide) (fun h4 => (absurd h4 (by decide))) (fun h4 => ?_)
    refine j_aload_n B dX1_awaitsCertificate_7 0 rfl rfl ?_
    refine j_get B (v := .int (σ 5 j)) pgX1 rfl (fun H h => pgR.dk h hj) 9 (by decide) q_211 rfl rfl dX1_awaitsCertificate_8 ?_
    refine j_if_ne B 26 dX1_awaitsCertificate_11 (by decide) (fun h5 => ?_) (fun h5 => ?_)
    · refine j_iconst B (v := 0) dX1_awaitsCertificate_26 (by decide) ?_
      exact j_iret B hr rfl dX1_awaitsCertificate_27 (Nat.le_of_ble_eq_true rfl) (Nat.le_of_ble_eq_true rfl) () (by grind) (fun H h => h)
    · refine j_aload_n B dX1_awaitsCertificate_14 0 rfl rfl ?_
      refine j_get B (v := .int (σ 9 j)) pgX1 rfl (fun H h => pgR.dk h hj) 10 (by decide) q_212 rfl rfl dX1_awaitsCertificate_15 ?_
      refine j_iconst B (v := (-1)) dX1_awaitsCertificate_18 (by decide) ?_
      refine j_icmp_ne B 26 dX1_awaitsCertificate_19 (by decide) (fun h6 => ?_) (fun h6 => ?_)
      · refine j_iconst B (v := 0) dX1_awaitsCertificate_26 (by decide) ?_
        exact j_iret B hr rfl dX1_awaitsCertificate_27 (Nat.le_of_ble_eq_true rfl) (Nat.le_of_ble_eq_true rfl) () (by grind) (fun H h => h)
      · refine j_iconst B (v := 1) dX1_awaitsCertificate_22 (by decide) ?_
        refine j_goto B 27 dX1_awaitsCertificate_23 (by decide) ?_
        exact j_iret B hr rfl dX1_awaitsCertificate_27 (Nat.le_of_ble_eq_true rfl) (Nat.le_of_ble_eq_true rfl) () (by grind) (fun H h => h)
  · obtain rfl : r1 = 0 := by rw [hp2]; exact if_neg h3
    refine j_if_eq B 26 dX1_awaitsCertificate_4 (by decide) (fun h7 => ?_) (fun h7 => (absurd (by decide) h7))
    refine j_iconst B (v := 0) dX1_awaitsCertificate_26 (by decide) ?_
    exact j_iret B hr rfl dX1_awaitsCertificate_27 (Nat.le_of_ble_eq_true rfl) (Nat.le_of_ble_eq_true rfl) () (by grind) (fun H h => h)
set_option maxHeartbeats 4000000 in
set_option maxRecDepth 100000 in
/-- handOver -/
theorem c_X2_handOver (l : Launch) (D : va_G) (cD cC cI cZ cL : ClassId) (A : Nat → Prop) (σ : pgSt) (n : Nat) (ad : Nat → Nat) (j : Nat) (hj : j < n) (to : Int32) : Met l yX2_handOver (.code yX2_handOver cX2_handOver 3 none :: pgWd) ({ frames := 0, cells := 0, slots := 0, locals := 0 } : Room) (pgPc D (pgTys cD cC cI cZ cL) A (pgR D cD cC A σ n ad) [.ref (ad 0), .ref (ad (13 + j)), .int to]) (va_Qv (fun (_ : Unit) => True) (fun _ t9 => pgR D cD cC A (pgHo σ j to) n ad t9.heap) A) 0 0 A := by
  refine pg_enter (own := RX2) (by decide) rfl (Nat.le_of_ble_eq_true rfl) (fun p e s m below meth cc9 B hr hnm => ?_)
  refine j_fact (fun H h => pgR.inA h) (fun hIn => ?_)
  refine j_aload_n B dX2_handOver_0 1 rfl rfl ?_
  refine j_iload_n B dX2_handOver_1 2 rfl rfl ?_
  refine j_put B (Wd' := pgR D cD cC A (pgU σ 2 j to) n ad) pgX1 tyX1 tyX1_ok nmX1 rfl (fun H h => pgR.dk h hj) 2 (by decide) q_198 rfl rfl rfl rfl rfl (Nat.le_of_ble_eq_true rfl) dX2_handOver_2 (hIn (13 + j) (by omega)) (fun H H1 h hc hz ho => pgR.putD h hj (by decide) pgDs2 hc ho) ?_
  refine j_aload_n B dX2_handOver_5 1 rfl rfl ?_
  refine j_iload_n B dX2_handOver_6 2 rfl rfl ?_
  refine j_put B (Wd' := pgR D cD cC A (pgU (pgU σ 2 j to) 14 j to) n ad) pgX1 tyX1 tyX1_ok nmX1 rfl (fun H h => pgR.dk h hj) 3 (by decide) q_199 rfl rfl rfl rfl rfl (Nat.le_of_ble_eq_true rfl) dX2_handOver_7 (hIn (13 + j) (by omega)) (fun H H1 h hc hz ho => pgR.putD h hj (by decide) pgDs3 hc ho) ?_
  refine j_aload_n B dX2_handOver_10 0 rfl rfl ?_
  refine j_dup B dX2_handOver_11 rfl ?_
  refine j_get B (v := .int (σ 13 3)) pgX2 rfl (fun H h => pgR.x h) 5 (by decide) q_52 rfl rfl dX2_handOver_12 ?_
  refine j_iconst B (v := 1) dX2_handOver_15 (by decide) ?_
  refine j_iadd B dX2_handOver_16 ?_
  refine j_put B (Wd' := pgR D cD cC A (pgU (pgU (pgU σ 2 j to) 14 j to) 13 3 ((σ 13 3) + 1)) n ad) pgX2 tyX2 tyX2_ok nmX2 rfl (fun H h => pgR.x h) 5 (by decide) q_52 rfl rfl rfl rfl rfl (Nat.le_of_ble_eq_true rfl) dX2_handOver_17 (hIn 0 (by omega)) (fun H H1 h hc hz ho => pgR.putX h pgXs5 hc ho) ?_
  exact j_vret B hr dX2_handOver_20 (Nat.le_of_ble_eq_true rfl) (Nat.le_of_ble_eq_true rfl) () trivial (fun H h => h)
set_option maxHeartbeats 4000000 in
set_option maxRecDepth 100000 in
/-- requireKeeper -/
theorem c_X2_requireKeeper (l : Launch) (hl : l.stackTraces = false) (D : va_G) (cD cC cI cZ cL : ClassId) (A : Nat → Prop) (σ : pgSt) (n : Nat) (ad : Nat → Nat) (k0 : Int32) : vx_Met l yX2_requireKeeper (.code yX2_requireKeeper cX2_requireKeeper 1 none :: pgWd) ({ frames := 6, cells := 1, slots := 6, locals := 82 } : Room) (pgPc D (pgTys cD cC cI cZ cL) A (pgR D cD cC A σ n ad) [.int k0]) (va_Qv (fun (_ : Unit) => pgIsK k0) (fun _ t9 => pgR D cD cC A σ n ad t9.heap) A) (pgX A (fun k => k = 1 ∧ ¬ pgIsK k0) (pgR D cD cC A σ n ad)) 1 6 A := by
  refine pg_enterX (own := RX2) (by decide) rfl (Nat.le_of_ble_eq_true rfl) (fun p e s m below meth cc9 B hr hnm ht => ?_)
  refine j_iload_n B dX2_requireKeeper_0 0 rfl rfl ?_
  refine j_if_lt B 10 dX2_requireKeeper_1 (by decide) (fun h1 => ?_) (fun h1 => ?_)
  · exact j_throw (k := 1) pgTI pgTI2 pgTI3 rfl q_86 q_6 rfl B hl ht (is := 191) (text := "there is no such keeper") (by decide) dX2_requireKeeper_10 dX2_requireKeeper_13 dX2_requireKeeper_14 dX2_requireKeeper_16 dX2_requireKeeper_19 (Nat.le_of_ble_eq_true rfl) (Nat.le_of_ble_eq_true rfl) (Nat.le_of_ble_eq_true rfl) (Nat.le_of_ble_eq_true rfl) (Nat.le_of_ble_eq_true rfl) (Nat.le_of_ble_eq_true rfl) (by grind) (fun H H1 h hq => pgR.more h hq)
  · refine j_iload_n B dX2_requireKeeper_4 0 rfl rfl ?_
    refine j_bipush B (v := 8) dX2_requireKeeper_5 (by decide) ?_
    refine j_icmp_lt B 20 dX2_requireKeeper_7 (by decide) (fun h2 => ?_) (fun h2 => ?_)
    · exact j_x (j_vret B hr dX2_requireKeeper_20 (Nat.le_of_ble_eq_true rfl) (Nat.le_of_ble_eq_true rfl) () (by grind) (fun H h => h))
    · exact j_throw (k := 1) pgTI pgTI2 pgTI3 rfl q_86 q_6 rfl B hl ht (is := 191) (text := "there is no such keeper") (by decide) dX2_requireKeeper_10 dX2_requireKeeper_13 dX2_requireKeeper_14 dX2_requireKeeper_16 dX2_requireKeeper_19 (Nat.le_of_ble_eq_true rfl) (Nat.le_of_ble_eq_true rfl) (Nat.le_of_ble_eq_true rfl) (Nat.le_of_ble_eq_true rfl) (Nat.le_of_ble_eq_true rfl) (Nat.le_of_ble_eq_true rfl) (by grind) (fun H H1 h hq => pgR.more h hq)
set_option maxHeartbeats 4000000 in
set_option maxRecDepth 100000 in
/-- requireLoose -/
theorem c_X2_requireLoose (l : Launch) (hl : l.stackTraces = false) (D : va_G) (cD cC cI cZ cL : ClassId) (A : Nat → Prop) (σ : pgSt) (n : Nat) (ad : Nat → Nat) (j : Nat) (hj : j < n) (hcr : pgCr n σ) : vx_Met l yX2_requireLoose (.code yX2_requireLoose cX2_requireLoose 1 none :: pgWd) ({ frames := 6, cells := 1, slots := 6, locals := 82 } : Room) (pgPc D (pgTys cD cC cI cZ cL) A (pgR D cD cC A σ n ad) [.ref (ad (13 + j))]) (va_Qv (fun (_ : Unit) => pgLoose σ j) (fun _ t9 => pgR D cD cC A σ n ad t9.heap) A) (pgX A (fun k => k = 3 ∧ ¬ pgLoose σ j) (pgR D cD cC A σ n ad)) 1 6 A := by
  refine pg_enterX (own := RX2) (by decide) rfl (Nat.le_of_ble_eq_true rfl) (fun p e s m below meth cc9 B hr hnm ht => ?_)
  refine j_aload_n B dX2_requireLoose_0 0 rfl rfl ?_
  refine j_get B (v := .int (σ 5 j)) pgX1 rfl (fun H h => pgR.dk h hj) 9 (by decide) q_210 rfl rfl dX2_requireLoose_1 ?_
  refine j_if_ne B 22 dX2_requireLoose_4 (by decide) (fun h1 => ?_) (fun h1 => ?_)
  · exact j_throw (k := 3) pgTS pgTS2 pgTS3 rfl q_173 q_8 rfl B hl ht (is := 193) (text := "the disk is missing, offered or in a crate") (by decide) dX2_requireLoose_22 dX2_requireLoose_25 dX2_requireLoose_26 dX2_requireLoose_28 dX2_requireLoose_31 (Nat.le_of_ble_eq_true rfl) (Nat.le_of_ble_eq_true rfl) (Nat.le_of_ble_eq_true rfl) (Nat.le_of_ble_eq_true rfl) (Nat.le_of_ble_eq_true rfl) (Nat.le_of_ble_eq_true rfl) (by grind) (fun H H1 h hq => pgR.more h hq)
  · refine j_aload_n B dX2_requireLoose_7 0 rfl rfl ?_
    refine j_get B (v := .int (σ 6 j)) pgX1 rfl (fun H h => pgR.dk h hj) 5 (by decide) q_203 rfl rfl dX2_requireLoose_8 ?_
    refine j_iconst B (v := (-1)) dX2_requireLoose_11 (by decide) ?_
    refine j_icmp_ne B 22 dX2_requireLoose_12 (by decide) (fun h2 => ?_) (fun h2 => ?_)
    · exact j_throw (k := 3) pgTS pgTS2 pgTS3 rfl q_173 q_8 rfl B hl ht (is := 193) (text := "the disk is missing, offered or in a crate") (by decide) dX2_requireLoose_22 dX2_requireLoose_25 dX2_requireLoose_26 dX2_requireLoose_28 dX2_requireLoose_31 (Nat.le_of_ble_eq_true rfl) (Nat.le_of_ble_eq_true rfl) (Nat.le_of_ble_eq_true rfl) (Nat.le_of_ble_eq_true rfl) (Nat.le_of_ble_eq_true rfl) (Nat.le_of_ble_eq_true rfl) (by grind) (fun H H1 h hq => pgR.more h hq)
    · refine j_aload_n B dX2_requireLoose_15 0 rfl rfl ?_
      rcases hcr j hj with e5 | ⟨c3, hc4, e5⟩
      · refine j_get B (v := .null) pgX1 rfl (fun H h => pgR.dk h hj) 4 (by decide) q_201 rfl (congrArg some (pgCv_null e5)) dX2_requireLoose_16 ?_
        refine j_ifnullN B 32 dX2_requireLoose_19 (by decide) ?_
        exact j_x (j_vret B hr dX2_requireLoose_32 (Nat.le_of_ble_eq_true rfl) (Nat.le_of_ble_eq_true rfl) () (by grind) (fun H h => h))
      · have xe5 := pgCx hc4 e5
        refine j_get B (v := .ref (ad (3 + c3))) pgX1 rfl (fun H h => pgR.dk h hj) 4 (by decide) q_201 rfl (congrArg some (pgCv_ref hc4 e5)) dX2_requireLoose_16 ?_
        refine j_ifnull B dX2_requireLoose_19 ?_
        exact j_throw (k := 3) pgTS pgTS2 pgTS3 rfl q_173 q_8 rfl B hl ht (is := 193) (text := "the disk is missing, offered or in a crate") (by decide) dX2_requireLoose_22 dX2_requireLoose_25 dX2_requireLoose_26 dX2_requireLoose_28 dX2_requireLoose_31 (Nat.le_of_ble_eq_true rfl) (Nat.le_of_ble_eq_true rfl) (Nat.le_of_ble_eq_true rfl) (Nat.le_of_ble_eq_true rfl) (Nat.le_of_ble_eq_true rfl) (Nat.le_of_ble_eq_true rfl) (by grind) (fun H H1 h hq => pgR.more h hq)
set_option maxHeartbeats 4000000 in
set_option maxRecDepth 100000 in
/-- requireWithinReach -/
theorem c_X2_requireWithinReach (l : Launch) (hl : l.stackTraces = false) (D : va_G) (cD cC cI cZ cL : ClassId) (A : Nat → Prop) (σ : pgSt) (n : Nat) (ad : Nat → Nat) (j : Nat) (hj : j < n) (hcr : pgCr n σ) : vx_Met l yX2_requireWithinReach (.code yX2_requireWithinReach cX2_requireWithinReach 1 none :: pgWd) ({ frames := 6, cells := 1, slots := 6, locals := 82 } : Room) (pgPc D (pgTys cD cC cI cZ cL) A (pgR D cD cC A σ n ad) [.ref (ad (13 + j))]) (va_Qv (fun (_ : Unit) => pgReach σ j) (fun _ t9 => pgR D cD cC A σ n ad t9.heap) A) (pgX A (fun k => k = 3 ∧ ¬ pgReach σ j) (pgR D cD cC A σ n ad)) 1 6 A := by
  refine pg_enterX (own := RX2) (by decide) rfl (Nat.le_of_ble_eq_true rfl) (fun p e s m below meth cc9 B hr hnm ht => ?_)
  refine j_aload_n B dX2_requireWithinReach_0 0 rfl rfl ?_
  refine j_get B (v := .int (σ 5 j)) pgX1 rfl (fun H h => pgR.dk h hj) 9 (by decide) q_210 rfl rfl dX2_requireWithinReach_1 ?_
  refine j_if_ne B 22 dX2_requireWithinReach_4 (by decide) (fun h1 => ?_) (fun h1 => ?_)
  · exact j_throw (k := 3) pgTS pgTS2 pgTS3 rfl q_173 q_8 rfl B hl ht (is := 198) (text := "the disk is missing, offered or in a sealed crate") (by decide) dX2_requireWithinReach_22 dX2_requireWithinReach_25 dX2_requireWithinReach_26 dX2_requireWithinReach_28 dX2_requireWithinReach_31 (Nat.le_of_ble_eq_true rfl) (Nat.le_of_ble_eq_true rfl) (Nat.le_of_ble_eq_true rfl) (Nat.le_of_ble_eq_true rfl) (Nat.le_of_ble_eq_true rfl) (Nat.le_of_ble_eq_true rfl) (by grind) (fun H H1 h hq => pgR.more h hq)
  · refine j_aload_n B dX2_requireWithinReach_7 0 rfl rfl ?_
    refine j_get B (v := .int (σ 6 j)) pgX1 rfl (fun H h => pgR.dk h hj) 5 (by decide) q_203 rfl rfl dX2_requireWithinReach_8 ?_
    refine j_iconst B (v := (-1)) dX2_requireWithinReach_11 (by decide) ?_
    refine j_icmp_ne B 22 dX2_requireWithinReach_12 (by decide) (fun h2 => ?_) (fun h2 => ?_)
    · exact j_throw (k := 3) pgTS pgTS2 pgTS3 rfl q_173 q_8 rfl B hl ht (is := 198) (text := "the disk is missing, offered or in a sealed crate") (by decide) dX2_requireWithinReach_22 dX2_requireWithinReach_25 dX2_requireWithinReach_26 dX2_requireWithinReach_28 dX2_requireWithinReach_31 (Nat.le_of_ble_eq_true rfl) (Nat.le_of_ble_eq_true rfl) (Nat.le_of_ble_eq_true rfl) (Nat.le_of_ble_eq_true rfl) (Nat.le_of_ble_eq_true rfl) (Nat.le_of_ble_eq_true rfl) (by grind) (fun H H1 h hq => pgR.more h hq)
    · refine j_aload_n B dX2_requireWithinReach_15 0 rfl rfl ?_
      refine j_cVi B (S := Unit) 0 [] (WdC' := fun _ => pgR D cD cC A σ n ad) (fun _ => pgR D cD cC A σ n ad) (c_X1_isSealedIn l D cD cC cI cZ cL A σ n ad j hj hcr) rfl (fun H h => pgR.dk h hj) q_355 q_356 q_357 q_9 q_358 hdX1_isSealedIn rfl ⟨Nat.le_of_ble_eq_true rfl, Nat.le_of_ble_eq_true rfl⟩ (Nat.le_of_ble_eq_true rfl) dX2_requireWithinReach_16 rfl ⟨Nat.le_of_ble_eq_true rfl, Nat.le_of_ble_eq_true rfl⟩ (fun _ h => h) (fun _ _ _ _ h => h) (fun _ h => h) (fun _ _ _ _ h _ _ => h) (fun r3 _ hp4 => ?_)
      by_cases h5 : pgShut σ j
      · obtain rfl : r3 = 1 := by rw [hp4]; exact if_pos h5
        refine j_if_eq B 32 dX2_requireWithinReach_19 (by decide) (fun h6 => (absurd h6 (by decide))) (fun h6 => ?_)
        exact j_throw (k := 3) pgTS pgTS2 pgTS3 rfl q_173 q_8 rfl B hl ht (is := 198) (text := "the disk is missing, offered or in a sealed crate") (by decide) dX2_requireWithinReach_22 dX2_requireWithinReach_25 dX2_requireWithinReach_26 dX2_requireWithinReach_28 dX2_requireWithinReach_31 (Nat.le_of_ble_eq_true rfl) (Nat.le_of_ble_eq_true rfl) (Nat.le_of_ble_eq_true rfl) (Nat.le_of_ble_eq_true rfl) (Nat.le_of_ble_eq_true rfl) (Nat.le_of_ble_eq_true rfl) (by grind) (fun H H1 h hq => pgR.more h hq)
      · obtain rfl : r3 = 0 := by rw [hp4]; exact if_neg h5
        refine j_if_eq B 32 dX2_requireWithinReach_19 (by decide) (fun h7 => ?_) (fun h7 => (absurd (by decide) h7))
        exact j_x (j_vret B hr dX2_requireWithinReach_32 (Nat.le_of_ble_eq_true rfl) (Nat.le_of_ble_eq_true rfl) () (by grind) (fun H h => h))
set_option maxHeartbeats 4000000 in
set_option maxRecDepth 100000 in
/-- requireWitnessIsNotKeeper -/
theorem c_X2_requireWitnessIsNotKeeper (l : Launch) (hl : l.stackTraces = false) (D : va_G) (cD cC cI cZ cL : ClassId) (A : Nat → Prop) (σ : pgSt) (n : Nat) (ad : Nat → Nat) (j : Nat) (hj : j < n) (w : Int32) : vx_Met l yX2_requireWitnessIsNotKeeper (.code yX2_requireWitnessIsNotKeeper cX2_requireWitnessIsNotKeeper 2 none :: pgWd) ({ frames := 6, cells := 1, slots := 6, locals := 82 } : Room) (pgPc D (pgTys cD cC cI cZ cL) A (pgR D cD cC A σ n ad) [.ref (ad (13 + j)), .int w]) (va_Qv (fun (_ : Unit) => ¬ w = σ 2 j) (fun _ t9 => pgR D cD cC A σ n ad t9.heap) A) (pgX A (fun k => k = 2 ∧ w = σ 2 j) (pgR D cD cC A σ n ad)) 1 6 A := by
  refine pg_enterX (own := RX2) (by decide) rfl (Nat.le_of_ble_eq_true rfl) (fun p e s m below meth cc9 B hr hnm ht => ?_)
  refine j_iload_n B dX2_requireWitnessIsNotKeeper_0 1 rfl rfl ?_
  refine j_aload_n B dX2_requireWitnessIsNotKeeper_1 0 rfl rfl ?_
  refine j_get B (v := .int (σ 2 j)) pgX1 rfl (fun H h => pgR.dk h hj) 2 (by decide) q_198 rfl rfl dX2_requireWitnessIsNotKeeper_2 ?_
  refine j_icmp_ne B 18 dX2_requireWitnessIsNotKeeper_5 (by decide) (fun h1 => ?_) (fun h1 => ?_)
  · exact j_x (j_vret B hr dX2_requireWitnessIsNotKeeper_18 (Nat.le_of_ble_eq_true rfl) (Nat.le_of_ble_eq_true rfl) () (by grind) (fun H h => h))
  · exact j_throw (k := 2) pgTA pgTA2 pgTA3 rfl q_157 q_7 rfl B hl ht (is := 200) (text := "the witness is the keeper of the disk") (by decide) dX2_requireWitnessIsNotKeeper_8 dX2_requireWitnessIsNotKeeper_11 dX2_requireWitnessIsNotKeeper_12 dX2_requireWitnessIsNotKeeper_14 dX2_requireWitnessIsNotKeeper_17 (Nat.le_of_ble_eq_true rfl) (Nat.le_of_ble_eq_true rfl) (Nat.le_of_ble_eq_true rfl) (Nat.le_of_ble_eq_true rfl) (Nat.le_of_ble_eq_true rfl) (Nat.le_of_ble_eq_true rfl) (by grind) (fun H H1 h hq => pgR.more h hq)
