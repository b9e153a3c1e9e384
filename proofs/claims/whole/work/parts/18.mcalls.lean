theorem pgN_f3 {P : Nat → Bool} {i : Nat} {x : Int32} (hx : x = nI (pgN P i)) (h : ¬ P i = true) : x + 0 = nI (pgN P (i + 1)) := by
  rw [Int32.add_zero]
  exact pgN_f2 hx h
set_option maxHeartbeats 4000000 in
set_option maxRecDepth 100000 in
/-- countIn -/
theorem c_X3_countIn (l : Launch) (D : va_G) (cD cC cI cZ cL : ClassId) (A : Nat → Prop) (σ : pgSt) (ρ : Nat → Int32) (th : Int32) (md : Nat → Nat) (n : Nat) (hn9 : n ≤ 60) (h130 : σ 13 0 = nI n) (c : Int32) : Met l yX3_countIn (.code yX3_countIn cX3_countIn 4 (some .int) :: pgWd) ({ frames := 0, cells := 0, slots := 0, locals := 0 } : Room) (pgPc D (pgTys cD cC cI cZ cL) A (pgM D cI cZ A σ ρ th md) [.ref (md 0), .int c]) (va_Qi (fun (r : Int32) (_ : Unit) => r = pgCnt σ n c) (fun _ t9 => pgM D cI cZ A σ ρ th md t9.heap) A) 0 0 A := by
  refine pg_enter (own := RX3) (by decide) rfl (Nat.le_of_ble_eq_true rfl) (fun p e s m below meth cc9 B hr hnm => ?_)
  refine j_iconst B (v := 0) dX3_countIn_0 (by decide) ?_
  refine j_istore_n B (L' := [(2, .int 0), (0, .ref (md 0)), (1, .int c)]) dX3_countIn_1 rfl (by decide) rfl ?_
  refine j_iconst B (v := 0) dX3_countIn_2 (by decide) ?_
  refine j_istore_n B (L' := [(3, .int 0), (2, .int 0), (0, .ref (md 0)), (1, .int c)]) dX3_countIn_3 rfl (by decide) rfl ?_
  refine j_locals [0, 1, 3, 2] rfl ?_
  refine j_loop (N := n) (X := Int32) (fun i x => x = nI (pgN (fun j => decide (σ 3 j = c)) i)) (fun i x => pgM D cI cZ A σ ρ th md) (fun i x => [(3, .int (nI i)), (2, .int x), (1, .int c), (0, .ref (md 0))]) (fun i x hi hv ih => ?_) 0 0 (by omega) rfl
  refine j_iload_n B dX3_countIn_4 0 rfl rfl ?_
  refine j_aload_n B dX3_countIn_5 3 rfl rfl ?_
  refine j_get B (v := .int (σ 13 0)) pgX3 rfl (fun H h => pgM.m h) 0 (by decide) q_505 rfl rfl dX3_countIn_6 ?_
  refine j_icmp_ge B 36 dX3_countIn_9 (by decide) (fun h1 => ?_) (fun h1 => ?_)
  · rw [h130] at h1
    obtain rfl := pg_eqN hi (by have := hn9; omega) h1
    refine j_iload_n B dX3_countIn_36 1 rfl rfl ?_
    exact j_iret B hr rfl dX3_countIn_37 (Nat.le_of_ble_eq_true rfl) (Nat.le_of_ble_eq_true rfl) () hv (fun H h => h)
  · rw [h130] at h1
    have hlt := pg_ltN (N := n) (by have := hn9; omega) hi h1
    refine j_iload_n B dX3_countIn_12 1 rfl rfl ?_
    refine j_aload_n B dX3_countIn_13 3 rfl rfl ?_
    refine j_get B (v := .ref (md 4)) pgX3 rfl (fun H h => pgM.m h) 4 (by decide) q_509 rfl rfl dX3_countIn_14 ?_
    refine j_iload_n B dX3_countIn_17 0 rfl rfl ?_
    refine j_ialdv B (fun H h => pgM.a4 h) 2 rfl (vp_in_nI (Nat.lt_of_lt_of_le hlt hn9) (by omega)) (v := σ 3 i) (congrArg _ (nI_clamp (by have := hn9; omega))) dX3_countIn_18 ?_
    refine j_iload_n B dX3_countIn_19 2 rfl rfl ?_
    refine j_icmp_ne B 27 dX3_countIn_20 (by decide) (fun h2 => ?_) (fun h2 => ?_)
    · refine j_iconst B (v := 0) dX3_countIn_27 (by decide) ?_
      refine j_iadd B dX3_countIn_28 ?_
      refine j_istore_n B (L' := [(2, .int (x + 0)), (3, .int (nI i)), (1, .int c), (0, .ref (md 0))]) dX3_countIn_29 rfl (by decide) rfl ?_
      refine j_iinc B (v := nI (i + 1)) (L' := [(3, .int (nI (i + 1))), (2, .int (x + 0)), (1, .int c), (0, .ref (md 0))]) dX3_countIn_30 1 rfl (nI_1 i) (by decide) rfl ?_
      refine j_goto B 4 dX3_countIn_33 (by decide) ?_
      refine j_locals [0, 1, 2, 3] rfl ?_
      exact ih hlt _ (pgN_f3 hv (by simp [*]))
    · refine j_iconst B (v := 1) dX3_countIn_23 (by decide) ?_
      refine j_goto B 28 dX3_countIn_24 (by decide) ?_
      refine j_iadd B dX3_countIn_28 ?_
      refine j_istore_n B (L' := [(2, .int (x + 1)), (3, .int (nI i)), (1, .int c), (0, .ref (md 0))]) dX3_countIn_29 rfl (by decide) rfl ?_
      refine j_iinc B (v := nI (i + 1)) (L' := [(3, .int (nI (i + 1))), (2, .int (x + 1)), (1, .int c), (0, .ref (md 0))]) dX3_countIn_30 1 rfl (nI_1 i) (by decide) rfl ?_
      refine j_goto B 4 dX3_countIn_33 (by decide) ?_
      refine j_locals [0, 1, 2, 3] rfl ?_
      exact ih hlt _ (pgN_t2 hv (by simp [*]))
set_option maxHeartbeats 4000000 in
set_option maxRecDepth 100000 in
/-- offer -/
theorem c_X3_offer (l : Launch) (D : va_G) (cD cC cI cZ cL : ClassId) (A : Nat → Prop) (σ : pgSt) (ρ : Nat → Int32) (th : Int32) (md : Nat → Nat) (n : Nat) (hI : pgI n σ) (d : Int32) (to : Int32) : Met l yX3_offer (.code yX3_offer cX3_offer 3 (some .int) :: pgWd) ({ frames := 2, cells := 0, slots := 0, locals := 43 } : Room) (pgPc D (pgTys cD cC cI cZ cL) A (pgM D cI cZ A σ ρ th md) [.ref (md 0), .int d, .int to]) (va_Qi (fun (r : Int32) (_ : Unit) => (sp_offer σ d to).1 = 0 → r = (sp_offer σ d to).2.1) (fun _ t9 => pgM D cI cZ A ((sp_offer σ d to).2.2) ρ (nI (sp_offer σ d to).1) md t9.heap) A) 0 0 A := by
  refine pg_enter (own := RX3) (by decide) rfl (Nat.le_of_ble_eq_true rfl) (fun p e s m below meth cc9 B hr hnm => ?_)
  refine j_fact (fun H h => pgM.inA h) (fun hIn => ?_)
  refine j_aload_n B dX3_offer_0 0 rfl rfl ?_
  refine j_aload_n B dX3_offer_1 0 rfl rfl ?_
  refine j_iload_n B dX3_offer_2 1 rfl rfl ?_
  refine j_cVi B (S := Unit) 1 [.int d] (WdC' := fun _ => pgM D cI cZ A σ ρ th md) (fun _ => pgM D cI cZ A σ ρ th md) (c_X3_isDisk l D cD cC cI cZ cL A σ ρ th md n hI d) rfl (fun H h => pgM.m h) q_587 q_589 q_p7 q_3 q_590 hdX3_isDisk rfl ⟨Nat.le_of_ble_eq_true rfl, Nat.le_of_ble_eq_true rfl⟩ (Nat.le_of_ble_eq_true rfl) dX3_offer_3 rfl ⟨Nat.le_of_ble_eq_true rfl, Nat.le_of_ble_eq_true rfl⟩ (fun _ h => h) (fun _ _ _ _ h => h) (fun _ h => h) (fun _ _ _ _ h _ _ => h) (fun r1 _ hp2 => ?_)
  by_cases h3 : pgIsD σ d
  · obtain rfl : r1 = 1 := by rw [hp2]; exact if_pos h3
    refine j_if_eq B 16 dX3_offer_6 (by decide) (fun h4 => (absurd h4 (by decide))) (fun h4 => ?_)
    refine j_iload_n B dX3_offer_9 2 rfl rfl ?_
    refine j_cSi B (S := Unit) 1 [.int to] (WdC' := fun _ => pgM D cI cZ A σ ρ th md) (fun _ => pgM D cI cZ A σ ρ th md) (c_X3_isKeeper l D cD cC cI cZ cL A σ ρ th md to) q_576 q_577 q_3 q_578 hdX3_isKeeper rfl ⟨Nat.le_of_ble_eq_true rfl, Nat.le_of_ble_eq_true rfl⟩ (Nat.le_of_ble_eq_true rfl) dX3_offer_10 rfl ⟨Nat.le_of_ble_eq_true rfl, Nat.le_of_ble_eq_true rfl⟩ (fun _ h => h) (fun _ _ _ _ h => h) (fun _ h => h) (fun _ _ _ _ h _ _ => h) (fun r5 _ hp6 => ?_)
    by_cases h7 : pgIsK to
    · obtain rfl : r5 = 1 := by rw [hp6]; exact if_pos h7
      refine j_if_ne B 20 dX3_offer_13 (by decide) (fun h8 => ?_) (fun h8 => (absurd h8 (by decide)))
      refine j_iload_n B dX3_offer_20 2 rfl rfl ?_
      refine j_aload_n B dX3_offer_21 0 rfl rfl ?_
      refine j_get B (v := .ref (md 3)) pgX3 rfl (fun H h => pgM.m h) 3 (by decide) q_508 rfl rfl dX3_offer_22 ?_
      refine j_iload_n B dX3_offer_25 1 rfl rfl ?_
      refine j_ialdv B (fun H h => pgM.a3 h) 2 rfl (pg_inD hI h3) (v := σ 2 (ix d)) rfl dX3_offer_26 ?_
      refine j_icmp_ne B 34 dX3_offer_27 (by decide) (fun h9 => ?_) (fun h9 => ?_)
      · refine j_aload_n B dX3_offer_34 0 rfl rfl ?_
        refine j_iload_n B dX3_offer_35 1 rfl rfl ?_
        refine j_cVi B (S := Unit) 1 [.int d] (WdC' := fun _ => pgM D cI cZ A σ ρ th md) (fun _ => pgM D cI cZ A σ ρ th md) (c_X3_isBarred l D cD cC cI cZ cL A σ ρ th md n hI d h3) rfl (fun H h => pgM.m h) q_591 q_593 q_p8 q_3 q_594 hdX3_isBarred rfl ⟨Nat.le_of_ble_eq_true rfl, Nat.le_of_ble_eq_true rfl⟩ (Nat.le_of_ble_eq_true rfl) dX3_offer_36 rfl ⟨Nat.le_of_ble_eq_true rfl, Nat.le_of_ble_eq_true rfl⟩ (fun _ h => h) (fun _ _ _ _ h => h) (fun _ h => h) (fun _ _ _ _ h _ _ => h) (fun r10 _ hp11 => ?_)
        by_cases h12 : ¬ pgReach σ (ix d)
        · obtain rfl : r10 = 1 := by rw [hp11]; exact if_pos h12
          refine j_if_ne B 52 dX3_offer_39 (by decide) (fun h13 => ?_) (fun h13 => (absurd h13 (by decide)))
          refine j_iconst B (v := 3) dX3_offer_52 (by decide) ?_
          refine j_goto B 57 dX3_offer_53 (by decide) ?_
          refine j_cVi B (S := Unit) 1 [.int 3] (WdC' := fun _ => pgM D cI cZ A σ ρ 3 md) (fun _ => pgM D cI cZ A σ ρ 3 md) (c_X3_can l D cD cC cI cZ cL A σ ρ th md 3) rfl (fun H h => pgM.m h) q_579 q_581 q_p6 q_3 q_582 hdX3_can rfl ⟨Nat.le_of_ble_eq_true rfl, Nat.le_of_ble_eq_true rfl⟩ (Nat.le_of_ble_eq_true rfl) dX3_offer_57 rfl ⟨Nat.le_of_ble_eq_true rfl, Nat.le_of_ble_eq_true rfl⟩ (fun _ h => h) (fun _ _ _ _ h => h) (fun _ h => h) (fun _ _ _ _ h _ _ => h) (fun r14 _ hp15 => ?_)
          obtain rfl : r14 = 0 := by rw [hp15]; rfl
          refine j_if_ne B 65 dX3_offer_60 (by decide) (fun h16 => (absurd (by decide) h16)) (fun h16 => ?_)
          refine j_iconst B (v := 0) dX3_offer_63 (by decide) ?_
          have e1 : (sp_offer σ d to).1 = 3 := by
            simp only [sp_offer]; grind
          have e2 : (sp_offer σ d to).2.2 = σ := by
            simp only [sp_offer]; grind
          exact j_iret B hr rfl dX3_offer_64 (Nat.le_of_ble_eq_true rfl) (Nat.le_of_ble_eq_true rfl) () (by rw [e1]; exact fun h => absurd h (by decide)) (fun H h => by rw [e1, e2]; exact h)
        · obtain rfl : r10 = 0 := by rw [hp11]; exact if_neg h12
          refine j_if_ne B 52 dX3_offer_39 (by decide) (fun h17 => (absurd (by decide) h17)) (fun h17 => ?_)
          refine j_aload_n B dX3_offer_42 0 rfl rfl ?_
          refine j_get B (v := .ref (md 4)) pgX3 rfl (fun H h => pgM.m h) 4 (by decide) q_509 rfl rfl dX3_offer_43 ?_
          refine j_iload_n B dX3_offer_46 1 rfl rfl ?_
          refine j_ialdv B (fun H h => pgM.a4 h) 2 rfl (pg_inD hI h3) (v := σ 3 (ix d)) rfl dX3_offer_47 ?_
          refine j_iconst B (v := (-1)) dX3_offer_48 (by decide) ?_
          refine j_icmp_eq B 56 dX3_offer_49 (by decide) (fun h18 => ?_) (fun h18 => ?_)
          · refine j_iconst B (v := 0) dX3_offer_56 (by decide) ?_
            refine j_cVi B (S := Unit) 1 [.int 0] (WdC' := fun _ => pgM D cI cZ A σ ρ 0 md) (fun _ => pgM D cI cZ A σ ρ 0 md) (c_X3_can l D cD cC cI cZ cL A σ ρ th md 0) rfl (fun H h => pgM.m h) q_579 q_581 q_p6 q_3 q_582 hdX3_can rfl ⟨Nat.le_of_ble_eq_true rfl, Nat.le_of_ble_eq_true rfl⟩ (Nat.le_of_ble_eq_true rfl) dX3_offer_57 rfl ⟨Nat.le_of_ble_eq_true rfl, Nat.le_of_ble_eq_true rfl⟩ (fun _ h => h) (fun _ _ _ _ h => h) (fun _ h => h) (fun _ _ _ _ h _ _ => h) (fun r19 _ hp20 => ?_)
            obtain rfl : r19 = 1 := by rw [hp20]; rfl
            refine j_if_ne B 65 dX3_offer_60 (by decide) (fun h21 => ?_) (fun h21 => (absurd h21 (by decide)))
            refine j_aload_n B dX3_offer_65 0 rfl rfl ?_
            refine j_get B (v := .ref (md 7)) pgX3 rfl (fun H h => pgM.m h) 7 (by decide) q_512 rfl rfl dX3_offer_66 ?_
            refine j_iload_n B dX3_offer_69 1 rfl rfl ?_
            refine j_iload_n B dX3_offer_70 2 rfl rfl ?_
            refine j_iast B (Wd' := pgM D cI cZ A (pgU σ 6 (ix d) to) ρ 0 md) (fun H h => pgM.a7 h) 2 rfl (pg_inD hI h3) dX3_offer_71 (hIn 7 (by omega)) (fun H H1 h hc hz ho => pgM.putA h (by decide) (pgMx rfl rfl (by decide)) hc ho) ?_
            refine j_aload_n B dX3_offer_72 0 rfl rfl ?_
            refine j_get B (v := .ref (md 3)) pgX3 rfl (fun H h => pgM.m h) 3 (by decide) q_508 rfl rfl dX3_offer_73 ?_
            refine j_iload_n B dX3_offer_76 1 rfl rfl ?_
            refine j_ialdv B (fun H h => pgM.a3 h) 2 rfl (pg_inD hI h3) (v := σ 2 (ix d)) rfl dX3_offer_77 ?_
            have e9 : sp_offer σ d to = (0, σ 2 (ix d), pgU σ 6 (ix d) to) := by
              simp only [sp_offer]; grind
            exact j_iret B hr rfl dX3_offer_78 (Nat.le_of_ble_eq_true rfl) (Nat.le_of_ble_eq_true rfl) () (by rw [e9]; exact fun _ => rfl) (fun H h => by rw [e9]; exact pgM.sim h (pgSim.of fun _ _ _ => rfl))
          · refine j_iconst B (v := 3) dX3_offer_52 (by decide) ?_
            refine j_goto B 57 dX3_offer_53 (by decide) ?_
            refine j_cVi B (S := Unit) 1 [.int 3] (WdC' := fun _ => pgM D cI cZ A σ ρ 3 md) (fun _ => pgM D cI cZ A σ ρ 3 md) (c_X3_can l D cD cC cI cZ cL A σ ρ th md 3) rfl (fun H h => pgM.m h) q_579 q_581 q_p6 q_3 q_582 hdX3_can rfl ⟨Nat.le_of_ble_eq_true rfl, Nat.le_of_ble_eq_true rfl⟩ (Nat.le_of_ble_eq_true rfl) dX3_offer_57 rfl ⟨Nat.le_of_ble_eq_true rfl, Nat.le_of_ble_eq_true rfl⟩ (fun _ h => h) (fun _ _ _ _ h => h) (fun _ h => h) (fun _ _ _ _ h _ _ => h) (fun r22 _ hp23 => ?_)
            obtain rfl : r22 = 0 := by rw [hp23]; rfl
            refine j_if_ne B 65 dX3_offer_60 (by decide) (fun h24 => (absurd (by decide) h24)) (fun h24 => ?_)
            refine j_iconst B (v := 0) dX3_offer_63 (by decide) ?_
            have e1 : (sp_offer σ d to).1 = 3 := by
              simp only [sp_offer]; grind
            have e2 : (sp_offer σ d to).2.2 = σ := by
              simp only [sp_offer]; grind
            exact j_iret B hr rfl dX3_offer_64 (Nat.le_of_ble_eq_true rfl) (Nat.le_of_ble_eq_true rfl) () (by rw [e1]; exact fun h => absurd h (by decide)) (fun H h => by rw [e1, e2]; exact h)
      · refine j_iconst B (v := 2) dX3_offer_30 (by decide) ?_
        refine j_goto B 57 dX3_offer_31 (by decide) ?_
        refine j_cVi B (S := Unit) 1 [.int 2] (WdC' := fun _ => pgM D cI cZ A σ ρ 2 md) (fun _ => pgM D cI cZ A σ ρ 2 md) (c_X3_can l D cD cC cI cZ cL A σ ρ th md 2) rfl (fun H h => pgM.m h) q_579 q_581 q_p6 q_3 q_582 hdX3_can rfl ⟨Nat.le_of_ble_eq_true rfl, Nat.le_of_ble_eq_true rfl⟩ (Nat.le_of_ble_eq_true rfl) dX3_offer_57 rfl ⟨Nat.le_of_ble_eq_true rfl, Nat.le_of_ble_eq_true rfl⟩ (fun _ h => h) (fun _ _ _ _ h => h) (fun _ h => h) (fun _ _ _ _ h _ _ => h) (fun r25 _ hp26 => ?_)
        obtain rfl : r25 = 0 := by rw [hp26]; rfl
        refine j_if_ne B 65 dX3_offer_60 (by decide) (fun h27 => (absurd (by decide) h27)) (fun h27 => ?_)
        refine j_iconst B (v := 0) dX3_offer_63 (by decide) ?_
        have e1 : (sp_offer σ d to).1 = 2 := by
          simp only [sp_offer]; grind
        have e2 : (sp_offer σ d to).2.2 = σ := by
          simp only [sp_offer]; grind
        exact j_iret B hr rfl dX3_offer_64 (Nat.le_of_ble_eq_true rfl) (Nat.le_of_ble_eq_true rfl) () (by rw [e1]; exact fun h => absurd h (by decide)) (fun H h => by rw [e1, e2]; exact h)
    · obtain rfl : r5 = 0 := by rw [hp6]; exact if_neg h7
      refine j_if_ne B 20 dX3_offer_13 (by decide) (fun h28 => (absurd (by decide) h28)) (fun h28 => ?_)
      refine j_iconst B (v := 1) dX3_offer_16 (by decide) ?_
      refine j_goto B 57 dX3_offer_17 (by decide) ?_
      refine j_cVi B (S := Unit) 1 [.int 1] (WdC' := fun _ => pgM D cI cZ A σ ρ 1 md) (fun _ => pgM D cI cZ A σ ρ 1 md) (c_X3_can l D cD cC cI cZ cL A σ ρ th md 1) rfl (fun H h => pgM.m h) q_579 q_581 q_p6 q_3 q_582 hdX3_can rfl ⟨Nat.le_of_ble_eq_true rfl, Nat.le_of_ble_eq_true rfl⟩ (Nat.le_of_ble_eq_true rfl) dX3_offer_57 rfl ⟨Nat.le_of_ble_eq_true rfl, Nat.le_of_ble_eq_true rfl⟩ (fun _ h => h) (fun _ _ _ _ h => h) (fun _ h => h) (fun _ _ _ _ h _ _ => h) (fun r29 _ hp30 => ?_)
      obtain rfl : r29 = 0 := by rw [hp30]; rfl
      refine j_if_ne B 65 dX3_offer_60 (by decide) (fun h31 => (absurd (by decide) h31)) (fun h31 => ?_)
      refine j_iconst B (v := 0) dX3_offer_63 (by decide) ?_
      have e1 : (sp_offer σ d to).1 = 1 := by
        simp only [sp_offer]; grind
      have e2 : (sp_offer σ d to).2.2 = σ := by
        simp only [sp_offer]; grind
      exact j_iret B hr rfl dX3_offer_64 (Nat.le_of_ble_eq_true rfl) (Nat.le_of_ble_eq_true rfl) () (by rw [e1]; exact fun h => absurd h (by decide)) (fun H h => by rw [e1, e2]; exact h)
  · obtain rfl : r1 = 0 := by rw [hp2]; exact if_neg h3
    refine j_if_eq B 16 dX3_offer_6 (by decide) (fun h32 => ?_) (fun h32 => (absurd (by decide) h32))
    refine j_iconst B (v := 1) dX3_offer_16 (by decide) ?_
    refine j_goto B 57 dX3_offer_17 (by decide) ?_
    refine j_cVi B (S := Unit) 1 [.int 1] (WdC' := fun _ => pgM D cI cZ A σ ρ 1 md) (fun _ => pgM D cI cZ A σ ρ 1 md) (c_X3_can l D cD cC cI cZ cL A σ ρ th md 1) rfl (fun H h => pgM.m h) q_579 q_581 q_p6 q_3 q_582 hdX3_can rfl ⟨Nat.le_of_ble_eq_true rfl, Nat.le_of_ble_eq_true rfl⟩ (Nat.le_of_ble_eq_true rfl) dX3_offer_57 rfl ⟨Nat.le_of_ble_eq_true rfl, Nat.le_of_ble_eq_true rfl⟩ (fun _ h => h) (fun _ _ _ _ h => h) (fun _ h => h) (fun _ _ _ _ h _ _ => h) (fun r33 _ hp34 => ?_)
    obtain rfl : r33 = 0 := by rw [hp34]; rfl
    refine j_if_ne B 65 dX3_offer_60 (by decide) (fun h35 => (absurd (by decide) h35)) (fun h35 => ?_)
    refine j_iconst B (v := 0) dX3_offer_63 (by decide) ?_
    have e1 : (sp_offer σ d to).1 = 1 := by
      simp only [sp_offer]; grind
    have e2 : (sp_offer σ d to).2.2 = σ := by
      simp only [sp_offer]; grind
    exact j_iret B hr rfl dX3_offer_64 (Nat.le_of_ble_eq_true rfl) (Nat.le_of_ble_eq_true rfl) () (by rw [e1]; exact fun h => absurd h (by decide)) (fun H h => by rw [e1, e2]; exact h)
set_option maxHeartbeats 4000000 in
set_option maxRecDepth 100000 in
/-- answer -/
theorem c_X3_answer (l : Launch) (D : va_G) (cD cC cI cZ cL : ClassId) (A : Nat → Prop) (σ : pgSt) (ρ : Nat → Int32) (th : Int32) (md : Nat → Nat) (n : Nat) (hI : pgI n σ) (d : Int32) (t : Int32) : Met l yX3_answer (.code yX3_answer cX3_answer 3 (some .int) :: pgWd) ({ frames := 2, cells := 0, slots := 0, locals := 43 } : Room) (pgPc D (pgTys cD cC cI cZ cL) A (pgM D cI cZ A σ ρ th md) [.ref (md 0), .int d, .int t]) (va_Qi (fun (r : Int32) (_ : Unit) => (sp_answer σ d t).1 = 0 → r = (sp_answer σ d t).2.1) (fun _ t9 => pgM D cI cZ A ((sp_answer σ d t).2.2) ρ (pgKB (sp_answer σ d t).1) md t9.heap) A) 0 0 A := by
  refine pg_enter (own := RX3) (by decide) rfl (Nat.le_of_ble_eq_true rfl) (fun p e s m below meth cc9 B hr hnm => ?_)
  refine j_fact (fun H h => pgM.inA h) (fun hIn => ?_)
  refine j_aload_n B dX3_answer_0 0 rfl rfl ?_
  refine j_aload_n B dX3_answer_1 0 rfl rfl ?_
  refine j_iload_n B dX3_answer_2 1 rfl rfl ?_
  refine j_cVi B (S := Unit) 1 [.int d] (WdC' := fun _ => pgM D cI cZ A σ ρ th md) (fun _ => pgM D cI cZ A σ ρ th md) (c_X3_isDisk l D cD cC cI cZ cL A σ ρ th md n hI d) rfl (fun H h => pgM.m h) q_587 q_589 q_p7 q_3 q_590 hdX3_isDisk rfl ⟨Nat.le_of_ble_eq_true rfl, Nat.le_of_ble_eq_true rfl⟩ (Nat.le_of_ble_eq_true rfl) dX3_answer_3 rfl ⟨Nat.le_of_ble_eq_true rfl, Nat.le_of_ble_eq_true rfl⟩ (fun _ h => h) (fun _ _ _ _ h => h) (fun _ h => h) (fun _ _ _ _ h _ _ => h) (fun r1 _ hp2 => ?_)
  by_cases h3 : pgIsD σ d
  · obtain rfl : r1 = 1 := by rw [hp2]; exact if_pos h3
    refine j_if_ne B 13 dX3_answer_6 (by decide) (fun h4 => ?_) (fun h4 => (absurd h4 (by decide)))
    refine j_aload_n B dX3_answer_13 0 rfl rfl ?_
    refine j_get B (v := .ref (md 6)) pgX3 rfl (fun H h => pgM.m h) 6 (by decide) q_511 rfl rfl dX3_answer_14 ?_
    refine j_iload_n B dX3_answer_17 1 rfl rfl ?_
    refine j_zaldv B (fun H h => pgM.a6 h) 3 rfl (pg_inD hI h3) (v := σ 5 (ix d)) rfl dX3_answer_18 ?_
    refine j_if_ne B 32 dX3_answer_19 (by decide) (fun h5 => ?_) (fun h5 => ?_)
    · refine j_iconst B (v := 2) dX3_answer_32 (by decide) ?_
      refine j_goto B 37 dX3_answer_33 (by decide) ?_
      refine j_cVi B (S := Unit) 1 [.int 2] (WdC' := fun _ => pgM D cI cZ A σ ρ 2 md) (fun _ => pgM D cI cZ A σ ρ 2 md) (c_X3_can l D cD cC cI cZ cL A σ ρ th md 2) rfl (fun H h => pgM.m h) q_579 q_581 q_p6 q_3 q_582 hdX3_can rfl ⟨Nat.le_of_ble_eq_true rfl, Nat.le_of_ble_eq_true rfl⟩ (Nat.le_of_ble_eq_true rfl) dX3_answer_37 rfl ⟨Nat.le_of_ble_eq_true rfl, Nat.le_of_ble_eq_true rfl⟩ (fun _ h => h) (fun _ _ _ _ h => h) (fun _ h => h) (fun _ _ _ _ h _ _ => h) (fun r6 _ hp7 => ?_)
      obtain rfl : r6 = 0 := by rw [hp7]; rfl
      refine j_if_ne B 45 dX3_answer_40 (by decide) (fun h8 => (absurd (by decide) h8)) (fun h8 => ?_)
      refine j_iconst B (v := 0) dX3_answer_43 (by decide) ?_
      have e1 : (sp_answer σ d t).1 = 3 := by
        simp only [sp_answer]; grind
      have e2 : (sp_answer σ d t).2.2 = σ := by
        simp only [sp_answer]; grind
      exact j_iret B hr rfl dX3_answer_44 (Nat.le_of_ble_eq_true rfl) (Nat.le_of_ble_eq_true rfl) () (by rw [e1]; exact fun h => absurd h (by decide)) (fun H h => by rw [e1, e2]; exact h)
    · refine j_aload_n B dX3_answer_22 0 rfl rfl ?_
      refine j_get B (v := .ref (md 7)) pgX3 rfl (fun H h => pgM.m h) 7 (by decide) q_512 rfl rfl dX3_answer_23 ?_
      refine j_iload_n B dX3_answer_26 1 rfl rfl ?_
      refine j_ialdv B (fun H h => pgM.a7 h) 2 rfl (pg_inD hI h3) (v := σ 6 (ix d)) rfl dX3_answer_27 ?_
      refine j_iconst B (v := (-1)) dX3_answer_28 (by decide) ?_
      refine j_icmp_ne B 36 dX3_answer_29 (by decide) (fun h9 => ?_) (fun h9 => ?_)
      · refine j_iconst B (v := 0) dX3_answer_36 (by decide) ?_
        refine j_cVi B (S := Unit) 1 [.int 0] (WdC' := fun _ => pgM D cI cZ A σ ρ 0 md) (fun _ => pgM D cI cZ A σ ρ 0 md) (c_X3_can l D cD cC cI cZ cL A σ ρ th md 0) rfl (fun H h => pgM.m h) q_579 q_581 q_p6 q_3 q_582 hdX3_can rfl ⟨Nat.le_of_ble_eq_true rfl, Nat.le_of_ble_eq_true rfl⟩ (Nat.le_of_ble_eq_true rfl) dX3_answer_37 rfl ⟨Nat.le_of_ble_eq_true rfl, Nat.le_of_ble_eq_true rfl⟩ (fun _ h => h) (fun _ _ _ _ h => h) (fun _ h => h) (fun _ _ _ _ h _ _ => h) (fun r10 _ hp11 => ?_)
        obtain rfl : r10 = 1 := by rw [hp11]; rfl
        refine j_if_ne B 45 dX3_answer_40 (by decide) (fun h12 => ?_) (fun h12 => (absurd h12 (by decide)))
        refine j_iload_n B dX3_answer_45 2 rfl rfl ?_
        refine j_if_eq B 71 dX3_answer_46 (by decide) (fun h13 => ?_) (fun h13 => ?_)
        · refine j_aload_n B dX3_answer_71 0 rfl rfl ?_
          refine j_get B (v := .ref (md 7)) pgX3 rfl (fun H h => pgM.m h) 7 (by decide) q_512 rfl rfl dX3_answer_72 ?_
          refine j_iload_n B dX3_answer_75 1 rfl rfl ?_
          refine j_iconst B (v := (-1)) dX3_answer_76 (by decide) ?_
          refine j_iast B (Wd' := pgM D cI cZ A (pgU σ 6 (ix d) (-1)) ρ 0 md) (fun H h => pgM.a7 h) 2 rfl (pg_inD hI h3) dX3_answer_77 (hIn 7 (by omega)) (fun H H1 h hc hz ho => pgM.putA h (by decide) (pgMx rfl rfl (by decide)) hc ho) ?_
          refine j_aload_n B dX3_answer_78 0 rfl rfl ?_
          refine j_get B (v := .ref (md 3)) pgX3 rfl (fun H h => pgM.m h) 3 (by decide) q_508 rfl rfl dX3_answer_79 ?_
          refine j_iload_n B dX3_answer_82 1 rfl rfl ?_
          refine j_ialdv B (fun H h => pgM.a3 h) 2 rfl (pg_inD hI h3) (v := σ 2 (ix d)) rfl dX3_answer_83 ?_
          have e9 : sp_answer σ d t = (0, σ 2 (ix d), pgU σ 6 (ix d) (-1)) := by
            simp only [sp_answer]; grind
          exact j_iret B hr rfl dX3_answer_84 (Nat.le_of_ble_eq_true rfl) (Nat.le_of_ble_eq_true rfl) () (by rw [e9]; exact fun _ => rfl) (fun H h => by rw [e9]; exact pgM.sim h (pgSim.of fun t9 j9 h9 => by simp only [pgHo, pgU] <;> grind))
        · refine j_aload_n B dX3_answer_49 0 rfl rfl ?_
          refine j_get B (v := .ref (md 3)) pgX3 rfl (fun H h => pgM.m h) 3 (by decide) q_508 rfl rfl dX3_answer_50 ?_
          refine j_iload_n B dX3_answer_53 1 rfl rfl ?_
          refine j_aload_n B dX3_answer_54 0 rfl rfl ?_
          refine j_get B (v := .ref (md 7)) pgX3 rfl (fun H h => pgM.m h) 7 (by decide) q_512 rfl rfl dX3_answer_55 ?_
          refine j_iload_n B dX3_answer_58 1 rfl rfl ?_
          refine j_ialdv B (fun H h => pgM.a7 h) 2 rfl (pg_inD hI h3) (v := σ 6 (ix d)) rfl dX3_answer_59 ?_
          refine j_iast B (Wd' := pgM D cI cZ A (pgU σ 2 (ix d) (σ 6 (ix d))) ρ 0 md) (fun H h => pgM.a3 h) 2 rfl (pg_inD hI h3) dX3_answer_60 (hIn 3 (by omega)) (fun H H1 h hc hz ho => pgM.putA h (by decide) (pgMx rfl rfl (by decide)) hc ho) ?_
          refine j_aload_n B dX3_answer_61 0 rfl rfl ?_
          refine j_dup B dX3_answer_62 rfl ?_
          refine j_get B (v := .int (σ 13 3)) pgX3 rfl (fun H h => pgM.m h) 16 (by decide) q_521 rfl rfl dX3_answer_63 ?_
          refine j_iconst B (v := 1) dX3_answer_66 (by decide) ?_
          refine j_iadd B dX3_answer_67 ?_
          refine j_put B (Wd' := pgM D cI cZ A (pgU (pgU σ 2 (ix d) (σ 6 (ix d))) 13 3 ((σ 13 3) + 1)) ρ 0 md) pgX3 tyX3 tyX3_ok nmX3 rfl (fun H h => pgM.m h) 16 (by decide) q_521 rfl rfl rfl rfl rfl (Nat.le_of_ble_eq_true rfl) dX3_answer_68 (hIn 0 (by omega)) (fun H H1 h hc hz ho => pgM.putN h pgMs16 hc ho) ?_
          refine j_aload_n B dX3_answer_71 0 rfl rfl ?_
          refine j_get B (v := .ref (md 7)) pgX3 rfl (fun H h => pgM.m h) 7 (by decide) q_512 rfl rfl dX3_answer_72 ?_
          refine j_iload_n B dX3_answer_75 1 rfl rfl ?_
          refine j_iconst B (v := (-1)) dX3_answer_76 (by decide) ?_
          refine j_iast B (Wd' := pgM D cI cZ A (pgU (pgU (pgU σ 2 (ix d) (σ 6 (ix d))) 13 3 ((σ 13 3) + 1)) 6 (ix d) (-1)) ρ 0 md) (fun H h => pgM.a7 h) 2 rfl (pg_inD hI h3) dX3_answer_77 (hIn 7 (by omega)) (fun H H1 h hc hz ho => pgM.putA h (by decide) (pgMx rfl rfl (by decide)) hc ho) ?_
          refine j_aload_n B dX3_answer_78 0 rfl rfl ?_
          refine j_get B (v := .ref (md 3)) pgX3 rfl (fun H h => pgM.m h) 3 (by decide) q_508 rfl rfl dX3_answer_79 ?_
          refine j_iload_n B dX3_answer_82 1 rfl rfl ?_
          refine j_ialdv B (fun H h => pgM.a3 h) 2 rfl (pg_inD hI h3) (v := σ 6 (ix d)) (by simp [pgU]) dX3_answer_83 ?_
          have e9 : sp_answer σ d t = (0, σ 6 (ix d), pgHo (pgU σ 6 (ix d) (-1)) (ix d) (σ 6 (ix d))) := by
            simp only [sp_answer]; grind
          exact j_iret B hr rfl dX3_answer_84 (Nat.le_of_ble_eq_true rfl) (Nat.le_of_ble_eq_true rfl) () (by rw [e9]; exact fun _ => rfl) (fun H h => by rw [e9]; exact pgM.sim h (pgSim.of fun t9 j9 h9 => by simp only [pgHo, pgU] <;> grind))
      · refine j_iconst B (v := 2) dX3_answer_32 (by decide) ?_
        refine j_goto B 37 dX3_answer_33 (by decide) ?_
        refine j_cVi B (S := Unit) 1 [.int 2] (WdC' := fun _ => pgM D cI cZ A σ ρ 2 md) (fun _ => pgM D cI cZ A σ ρ 2 md) (c_X3_can l D cD cC cI cZ cL A σ ρ th md 2) rfl (fun H h => pgM.m h) q_579 q_581 q_p6 q_3 q_582 hdX3_can rfl ⟨Nat.le_of_ble_eq_true rfl, Nat.le_of_ble_eq_true rfl⟩ (Nat.le_of_ble_eq_true rfl) dX3_answer_37 rfl ⟨Nat.le_of_ble_eq_true rfl, Nat.le_of_ble_eq_true rfl⟩ (fun _ h => h) (fun _ _ _ _ h => h) (fun _ h => h) (fun _ _ _ _ h _ _ => h) (fun r14 _ hp15 => ?_)
        obtain rfl : r14 = 0 := by rw [hp15]; rfl
        refine j_if_ne B 45 dX3_answer_40 (by decide) (fun h16 => (absurd (by decide) h16)) (fun h16 => ?_)
        refine j_iconst B (v := 0) dX3_answer_43 (by decide) ?_
        have e1 : (sp_answer σ d t).1 = 3 := by
          simp only [sp_answer]; grind
        have e2 : (sp_answer σ d t).2.2 = σ := by
          simp only [sp_answer]; grind
        exact j_iret B hr rfl dX3_answer_44 (Nat.le_of_ble_eq_true rfl) (Nat.le_of_ble_eq_true rfl) () (by rw [e1]; exact fun h => absurd h (by decide)) (fun H h => by rw [e1, e2]; exact h)
  · obtain rfl : r1 = 0 := by rw [hp2]; exact if_neg h3
    refine j_if_ne B 13 dX3_answer_6 (by decide) (fun h17 => (absurd (by decide) h17)) (fun h17 => ?_)
    refine j_iconst B (v := 1) dX3_answer_9 (by decide) ?_
    refine j_goto B 37 dX3_answer_10 (by decide) ?_
    refine j_cVi B (S := Unit) 1 [.int 1] (WdC' := fun _ => pgM D cI cZ A σ ρ 1 md) (fun _ => pgM D cI cZ A σ ρ 1 md) (c_X3_can l D cD cC cI cZ cL A σ ρ th md 1) rfl (fun H h => pgM.m h) q_579 q_581 q_p6 q_3 q_582 hdX3_can rfl ⟨Nat.le_of_ble_eq_true rfl, Nat.le_of_ble_eq_true rfl⟩ (Nat.le_of_ble_eq_true rfl) dX3_answer_37 rfl ⟨Nat.le_of_ble_eq_true rfl, Nat.le_of_ble_eq_true rfl⟩ (fun _ h => h) (fun _ _ _ _ h => h) (fun _ h => h) (fun _ _ _ _ h _ _ => h) (fun r18 _ hp19 => ?_)
    obtain rfl : r18 = 0 := by rw [hp19]; rfl
    refine j_if_ne B 45 dX3_answer_40 (by decide) (fun h20 => (absurd (by decide) h20)) (fun h20 => ?_)
    refine j_iconst B (v := 0) dX3_answer_43 (by decide) ?_
    have e1 : (sp_answer σ d t).1 = 1 := by
      simp only [sp_answer]; grind
    have e2 : (sp_answer σ d t).2.2 = σ := by
      simp only [sp_answer]; grind
    exact j_iret B hr rfl dX3_answer_44 (Nat.le_of_ble_eq_true rfl) (Nat.le_of_ble_eq_true rfl) () (by rw [e1]; exact fun h => absurd h (by decide)) (fun H h => by rw [e1, e2]; exact h)
set_option maxHeartbeats 4000000 in
set_option maxRecDepth 100000 in
/-- unpack -/
theorem c_X3_unpack (l : Launch) (D : va_G) (cD cC cI cZ cL : ClassId) (A : Nat → Prop) (σ : pgSt) (ρ : Nat → Int32) (th : Int32) (md : Nat → Nat) (n : Nat) (hI : pgI n σ) (d : Int32) : Met l yX3_unpack (.code yX3_unpack cX3_unpack 3 (some .int) :: pgWd) ({ frames := 2, cells := 0, slots := 0, locals := 43 } : Room) (pgPc D (pgTys cD cC cI cZ cL) A (pgM D cI cZ A σ ρ th md) [.ref (md 0), .int d]) (va_Qi (fun (r : Int32) (_ : Unit) => (sp_unpack σ d).1 = 0 → r = (sp_unpack σ d).2.1) (fun _ t9 => pgM D cI cZ A ((sp_unpack σ d).2.2) ρ (pgKB (sp_unpack σ d).1) md t9.heap) A) 0 0 A := by
  refine pg_enter (own := RX3) (by decide) rfl (Nat.le_of_ble_eq_true rfl) (fun p e s m below meth cc9 B hr hnm => ?_)
  refine j_fact (fun H h => pgM.inA h) (fun hIn => ?_)
  refine j_aload_n B dX3_unpack_0 0 rfl rfl ?_
  refine j_aload_n B dX3_unpack_1 0 rfl rfl ?_
  refine j_iload_n B dX3_unpack_2 1 rfl rfl ?_
  refine j_cVi B (S := Unit) 1 [.int d] (WdC' := fun _ => pgM D cI cZ A σ ρ th md) (fun _ => pgM D cI cZ A σ ρ th md) (c_X3_isDisk l D cD cC cI cZ cL A σ ρ th md n hI d) rfl (fun H h => pgM.m h) q_587 q_589 q_p7 q_3 q_590 hdX3_isDisk rfl ⟨Nat.le_of_ble_eq_true rfl, Nat.le_of_ble_eq_true rfl⟩ (Nat.le_of_ble_eq_true rfl) dX3_unpack_3 rfl ⟨Nat.le_of_ble_eq_true rfl, Nat.le_of_ble_eq_true rfl⟩ (fun _ h => h) (fun _ _ _ _ h => h) (fun _ h => h) (fun _ _ _ _ h _ _ => h) (fun r1 _ hp2 => ?_)
  by_cases h3 : pgIsD σ d
  · obtain rfl : r1 = 1 := by rw [hp2]; exact if_pos h3
    refine j_if_ne B 13 dX3_unpack_6 (by decide) (fun h4 => ?_) (fun h4 => (absurd h4 (by decide)))
    refine j_aload_n B dX3_unpack_13 0 rfl rfl ?_
    refine j_get B (v := .ref (md 6)) pgX3 rfl (fun H h => pgM.m h) 6 (by decide) q_511 rfl rfl dX3_unpack_14 ?_
    refine j_iload_n B dX3_unpack_17 1 rfl rfl ?_
    refine j_zaldv B (fun H h => pgM.a6 h) 3 rfl (pg_inD hI h3) (v := σ 5 (ix d)) rfl dX3_unpack_18 ?_
    refine j_if_ne B 40 dX3_unpack_19 (by decide) (fun h5 => ?_) (fun h5 => ?_)
    · refine j_iconst B (v := 2) dX3_unpack_40 (by decide) ?_
      refine j_goto B 45 dX3_unpack_41 (by decide) ?_
      refine j_cVi B (S := Unit) 1 [.int 2] (WdC' := fun _ => pgM D cI cZ A σ ρ 2 md) (fun _ => pgM D cI cZ A σ ρ 2 md) (c_X3_can l D cD cC cI cZ cL A σ ρ th md 2) rfl (fun H h => pgM.m h) q_579 q_581 q_p6 q_3 q_582 hdX3_can rfl ⟨Nat.le_of_ble_eq_true rfl, Nat.le_of_ble_eq_true rfl⟩ (Nat.le_of_ble_eq_true rfl) dX3_unpack_45 rfl ⟨Nat.le_of_ble_eq_true rfl, Nat.le_of_ble_eq_true rfl⟩ (fun _ h => h) (fun _ _ _ _ h => h) (fun _ h => h) (fun _ _ _ _ h _ _ => h) (fun r6 _ hp7 => ?_)
      obtain rfl : r6 = 0 := by rw [hp7]; rfl
      refine j_if_ne B 53 dX3_unpack_48 (by decide) (fun h8 => (absurd (by decide) h8)) (fun h8 => ?_)
      refine j_iconst B (v := 0) dX3_unpack_51 (by decide) ?_
      have e1 : (sp_unpack σ d).1 = 3 := by
        simp only [sp_unpack]; grind
      have e2 : (sp_unpack σ d).2.2 = σ := by
        simp only [sp_unpack]; grind
      exact j_iret B hr rfl dX3_unpack_52 (Nat.le_of_ble_eq_true rfl) (Nat.le_of_ble_eq_true rfl) () (by rw [e1]; exact fun h => absurd h (by decide)) (fun H h => by rw [e1, e2]; exact h)
    · refine j_aload_n B dX3_unpack_22 0 rfl rfl ?_
      refine j_get B (v := .ref (md 4)) pgX3 rfl (fun H h => pgM.m h) 4 (by decide) q_509 rfl rfl dX3_unpack_23 ?_
      refine j_iload_n B dX3_unpack_26 1 rfl rfl ?_
      refine j_ialdv B (fun H h => pgM.a4 h) 2 rfl (pg_inD hI h3) (v := σ 3 (ix d)) rfl dX3_unpack_27 ?_
      refine j_iconst B (v := (-1)) dX3_unpack_28 (by decide) ?_
      refine j_icmp_eq B 40 dX3_unpack_29 (by decide) (fun h9 => ?_) (fun h9 => ?_)
      · refine j_iconst B (v := 2) dX3_unpack_40 (by decide) ?_
        refine j_goto B 45 dX3_unpack_41 (by decide) ?_
        refine j_cVi B (S := Unit) 1 [.int 2] (WdC' := fun _ => pgM D cI cZ A σ ρ 2 md) (fun _ => pgM D cI cZ A σ ρ 2 md) (c_X3_can l D cD cC cI cZ cL A σ ρ th md 2) rfl (fun H h => pgM.m h) q_579 q_581 q_p6 q_3 q_582 hdX3_can rfl ⟨Nat.le_of_ble_eq_true rfl, Nat.le_of_ble_eq_true rfl⟩ (Nat.le_of_ble_eq_true rfl) dX3_unpack_45 rfl ⟨Nat.le_of_ble_eq_true rfl, Nat.le_of_ble_eq_true rfl⟩ (fun _ h => h) (fun _ _ _ _ h => h) (fun _ h => h) (fun _ _ _ _ h _ _ => h) (fun r10 _ hp11 => ?_)
        obtain rfl : r10 = 0 := by rw [hp11]; rfl
        refine j_if_ne B 53 dX3_unpack_48 (by decide) (fun h12 => (absurd (by decide) h12)) (fun h12 => ?_)
        refine j_iconst B (v := 0) dX3_unpack_51 (by decide) ?_
        have e1 : (sp_unpack σ d).1 = 3 := by
          simp only [sp_unpack]; grind
        have e2 : (sp_unpack σ d).2.2 = σ := by
          simp only [sp_unpack]; grind
        exact j_iret B hr rfl dX3_unpack_52 (Nat.le_of_ble_eq_true rfl) (Nat.le_of_ble_eq_true rfl) () (by rw [e1]; exact fun h => absurd h (by decide)) (fun H h => by rw [e1, e2]; exact h)
      · refine j_aload_n B dX3_unpack_32 0 rfl rfl ?_
        refine j_iload_n B dX3_unpack_33 1 rfl rfl ?_
        refine j_cVi B (S := Unit) 1 [.int d] (WdC' := fun _ => pgM D cI cZ A σ ρ th md) (fun _ => pgM D cI cZ A σ ρ th md) (c_X3_isShut l D cD cC cI cZ cL A σ ρ th md n hI d h3) rfl (fun H h => pgM.m h) q_595 q_597 q_p9 q_3 q_598 hdX3_isShut rfl ⟨Nat.le_of_ble_eq_true rfl, Nat.le_of_ble_eq_true rfl⟩ (Nat.le_of_ble_eq_true rfl) dX3_unpack_34 rfl ⟨Nat.le_of_ble_eq_true rfl, Nat.le_of_ble_eq_true rfl⟩ (fun _ h => h) (fun _ _ _ _ h => h) (fun _ h => h) (fun _ _ _ _ h _ _ => h) (fun r13 _ hp14 => ?_)
        by_cases h15 : pgShut σ (ix d)
        · obtain rfl : r13 = 1 := by rw [hp14]; exact if_pos h15
          refine j_if_eq B 44 dX3_unpack_37 (by decide) (fun h16 => (absurd h16 (by decide))) (fun h16 => ?_)
          refine j_iconst B (v := 2) dX3_unpack_40 (by decide) ?_
          refine j_goto B 45 dX3_unpack_41 (by decide) ?_
          refine j_cVi B (S := Unit) 1 [.int 2] (WdC' := fun _ => pgM D cI cZ A σ ρ 2 md) (fun _ => pgM D cI cZ A σ ρ 2 md) (c_X3_can l D cD cC cI cZ cL A σ ρ th md 2) rfl (fun H h => pgM.m h) q_579 q_581 q_p6 q_3 q_582 hdX3_can rfl ⟨Nat.le_of_ble_eq_true rfl, Nat.le_of_ble_eq_true rfl⟩ (Nat.le_of_ble_eq_true rfl) dX3_unpack_45 rfl ⟨Nat.le_of_ble_eq_true rfl, Nat.le_of_ble_eq_true rfl⟩ (fun _ h => h) (fun _ _ _ _ h => h) (fun _ h => h) (fun _ _ _ _ h _ _ => h) (fun r17 _ hp18 => ?_)
          obtain rfl : r17 = 0 := by rw [hp18]; rfl
          refine j_if_ne B 53 dX3_unpack_48 (by decide) (fun h19 => (absurd (by decide) h19)) (fun h19 => ?_)
          refine j_iconst B (v := 0) dX3_unpack_51 (by decide) ?_
          have e1 : (sp_unpack σ d).1 = 3 := by
            simp only [sp_unpack]; grind
          have e2 : (sp_unpack σ d).2.2 = σ := by
            simp only [sp_unpack]; grind
          exact j_iret B hr rfl dX3_unpack_52 (Nat.le_of_ble_eq_true rfl) (Nat.le_of_ble_eq_true rfl) () (by rw [e1]; exact fun h => absurd h (by decide)) (fun H h => by rw [e1, e2]; exact h)
        · obtain rfl : r13 = 0 := by rw [hp14]; exact if_neg h15
          refine j_if_eq B 44 dX3_unpack_37 (by decide) (fun h20 => ?_) (fun h20 => (absurd (by decide) h20))
          refine j_iconst B (v := 0) dX3_unpack_44 (by decide) ?_
          refine j_cVi B (S := Unit) 1 [.int 0] (WdC' := fun _ => pgM D cI cZ A σ ρ 0 md) (fun _ => pgM D cI cZ A σ ρ 0 md) (c_X3_can l D cD cC cI cZ cL A σ ρ th md 0) rfl (fun H h => pgM.m h) q_579 q_581 q_p6 q_3 q_582 hdX3_can rfl ⟨Nat.le_of_ble_eq_true rfl, Nat.le_of_ble_eq_true rfl⟩ (Nat.le_of_ble_eq_true rfl) dX3_unpack_45 rfl ⟨Nat.le_of_ble_eq_true rfl, Nat.le_of_ble_eq_true rfl⟩ (fun _ h => h) (fun _ _ _ _ h => h) (fun _ h => h) (fun _ _ _ _ h _ _ => h) (fun r21 _ hp22 => ?_)
          obtain rfl : r21 = 1 := by rw [hp22]; rfl
          refine j_if_ne B 53 dX3_unpack_48 (by decide) (fun h23 => ?_) (fun h23 => (absurd h23 (by decide)))
          refine j_aload_n B dX3_unpack_53 0 rfl rfl ?_
          refine j_get B (v := .ref (md 4)) pgX3 rfl (fun H h => pgM.m h) 4 (by decide) q_509 rfl rfl dX3_unpack_54 ?_
          refine j_iload_n B dX3_unpack_57 1 rfl rfl ?_
          refine j_ialdv B (fun H h => pgM.a4 h) 2 rfl (pg_inD hI h3) (v := σ 3 (ix d)) rfl dX3_unpack_58 ?_
          refine j_istore_n B (L' := [(2, .int (σ 3 (ix d))), (0, .ref (md 0)), (1, .int d)]) dX3_unpack_59 rfl (by decide) rfl ?_
          refine j_aload_n B dX3_unpack_60 1 rfl rfl ?_
          refine j_get B (v := .ref (md 4)) pgX3 rfl (fun H h => pgM.m h) 4 (by decide) q_509 rfl rfl dX3_unpack_61 ?_
          refine j_iload_n B dX3_unpack_64 2 rfl rfl ?_
          refine j_iconst B (v := (-1)) dX3_unpack_65 (by decide) ?_
          refine j_iast B (Wd' := pgM D cI cZ A (pgU σ 3 (ix d) (-1)) ρ 0 md) (fun H h => pgM.a4 h) 2 rfl (pg_inD hI h3) dX3_unpack_66 (hIn 4 (by omega)) (fun H H1 h hc hz ho => pgM.putA h (by decide) (pgMx rfl rfl (by decide)) hc ho) ?_
          refine j_iload_n B dX3_unpack_67 0 rfl rfl ?_
          have e9 : sp_unpack σ d = (0, σ 3 (ix d), pgU σ 3 (ix d) (-1)) := by
            simp only [sp_unpack]; grind
          exact j_iret B hr rfl dX3_unpack_68 (Nat.le_of_ble_eq_true rfl) (Nat.le_of_ble_eq_true rfl) () (by rw [e9]; exact fun _ => rfl) (fun H h => by rw [e9]; exact pgM.sim h (pgSim.of fun _ _ _ => rfl))
  · obtain rfl : r1 = 0 := by rw [hp2]; exact if_neg h3
    refine j_if_ne B 13 dX3_unpack_6 (by decide) (fun h24 => (absurd (by decide) h24)) (fun h24 => ?_)
    refine j_iconst B (v := 1) dX3_unpack_9 (by decide) ?_
    refine j_goto B 45 dX3_unpack_10 (by decide) ?_
    refine j_cVi B (S := Unit) 1 [.int 1] (WdC' := fun _ => pgM D cI cZ A σ ρ 1 md) (fun _ => pgM D cI cZ A σ ρ 1 md) (c_X3_can l D cD cC cI cZ cL A σ ρ th md 1) rfl (fun H h => pgM.m h) q_579 q_581 q_p6 q_3 q_582 hdX3_can rfl ⟨Nat.le_of_ble_eq_true rfl, Nat.le_of_ble_eq_true rfl⟩ (Nat.le_of_ble_eq_true rfl) dX3_unpack_45 rfl ⟨Nat.le_of_ble_eq_true rfl, Nat.le_of_ble_eq_true rfl⟩ (fun _ h => h) (fun _ _ _ _ h => h) (fun _ h => h) (fun _ _ _ _ h _ _ => h) (fun r25 _ hp26 => ?_)
    obtain rfl : r25 = 0 := by rw [hp26]; rfl
    refine j_if_ne B 53 dX3_unpack_48 (by decide) (fun h27 => (absurd (by decide) h27)) (fun h27 => ?_)
    refine j_iconst B (v := 0) dX3_unpack_51 (by decide) ?_
    have e1 : (sp_unpack σ d).1 = 1 := by
      simp only [sp_unpack]; grind
    have e2 : (sp_unpack σ d).2.2 = σ := by
      simp only [sp_unpack]; grind
    exact j_iret B hr rfl dX3_unpack_52 (Nat.le_of_ble_eq_true rfl) (Nat.le_of_ble_eq_true rfl) () (by rw [e1]; exact fun h => absurd h (by decide)) (fun H h => by rw [e1, e2]; exact h)
set_option maxHeartbeats 4000000 in
set_option maxRecDepth 100000 in
/-- wipe -/
theorem c_X3_wipe (l : Launch) (D : va_G) (cD cC cI cZ cL : ClassId) (A : Nat → Prop) (σ : pgSt) (ρ : Nat → Int32) (th : Int32) (md : Nat → Nat) (n : Nat) (hI : pgI n σ) (d : Int32) (way : Int32) (w : Int32) : Met l yX3_wipe (.code yX3_wipe cX3_wipe 6 (some .int) :: pgWd) ({ frames := 2, cells := 0, slots := 0, locals := 43 } : Room) (pgPc D (pgTys cD cC cI cZ cL) A (pgM D cI cZ A σ ρ th md) [.ref (md 0), .int d, .int way, .int w]) (va_Qi (fun (r : Int32) (_ : Unit) => (sp_wipe σ d way w).1 = 0 → r = (sp_wipe σ d way w).2.1) (fun _ t9 => pgM D cI cZ A ((sp_wipe σ d way w).2.2) ρ (nI (sp_wipe σ d way w).1) md t9.heap) A) 0 0 A := by
  refine pg_enter (own := RX3) (by decide) rfl (Nat.le_of_ble_eq_true rfl) (fun p e s m below meth cc9 B hr hnm => ?_)
  refine j_fact (fun H h => pgM.inA h) (fun hIn => ?_)
  refine j_aload_n B dX3_wipe_0 0 rfl rfl ?_
  refine j_iload_n B dX3_wipe_1 1 rfl rfl ?_
  refine j_cVi B (S := Unit) 1 [.int d] (WdC' := fun _ => pgM D cI cZ A σ ρ th md) (fun _ => pgM D cI cZ A σ ρ th md) (c_X3_isDisk l D cD cC cI cZ cL A σ ρ th md n hI d) rfl (fun H h => pgM.m h) q_587 q_589 q_p7 q_3 q_590 hdX3_isDisk rfl ⟨Nat.le_of_ble_eq_true rfl, Nat.le_of_ble_eq_true rfl⟩ (Nat.le_of_ble_eq_true rfl) dX3_wipe_2 rfl ⟨Nat.le_of_ble_eq_true rfl, Nat.le_of_ble_eq_true rfl⟩ (fun _ h => h) (fun _ _ _ _ h => h) (fun _ h => h) (fun _ _ _ _ h _ _ => h) (fun r1 _ hp2 => ?_)
  by_cases h3 : pgIsD σ d
  · obtain rfl : r1 = 1 := by rw [hp2]; exact if_pos h3
    refine j_if_eq B 19 dX3_wipe_5 (by decide) (fun h4 => (absurd h4 (by decide))) (fun h4 => ?_)
    refine j_iload_n B dX3_wipe_8 3 rfl rfl ?_
    refine j_cSi B (S := Unit) 1 [.int w] (WdC' := fun _ => pgM D cI cZ A σ ρ th md) (fun _ => pgM D cI cZ A σ ρ th md) (c_X3_isKeeper l D cD cC cI cZ cL A σ ρ th md w) q_576 q_577 q_3 q_578 hdX3_isKeeper rfl ⟨Nat.le_of_ble_eq_true rfl, Nat.le_of_ble_eq_true rfl⟩ (Nat.le_of_ble_eq_true rfl) dX3_wipe_9 rfl ⟨Nat.le_of_ble_eq_true rfl, Nat.le_of_ble_eq_true rfl⟩ (fun _ h => h) (fun _ _ _ _ h => h) (fun _ h => h) (fun _ _ _ _ h _ _ => h) (fun r5 _ hp6 => ?_)
    by_cases h7 : pgIsK w
    · obtain rfl : r5 = 1 := by rw [hp6]; exact if_pos h7
      refine j_if_eq B 19 dX3_wipe_12 (by decide) (fun h8 => (absurd h8 (by decide))) (fun h8 => ?_)
      refine j_iconst B (v := 1) dX3_wipe_15 (by decide) ?_
      refine j_goto B 20 dX3_wipe_16 (by decide) ?_
      refine j_istore B (L' := [(4, .int 1), (0, .ref (md 0)), (1, .int d), (2, .int way), (3, .int w)]) dX3_wipe_20 (by decide) rfl ?_
      refine j_iload B dX3_wipe_22 0 rfl ?_
      refine j_if_eq B 50 dX3_wipe_24 (by decide) (fun h9 => (absurd h9 (by decide))) (fun h9 => ?_)
      refine j_iload_n B dX3_wipe_27 3 rfl rfl ?_
      refine j_iconst B (v := 0) dX3_wipe_28 (by decide) ?_
      refine j_iconst B (v := 2) dX3_wipe_29 (by decide) ?_
      refine j_cSi B (S := Unit) 3 [.int way, .int 0, .int 2] (WdC' := fun _ => pgM D cI cZ A σ ρ th md) (fun _ => pgM D cI cZ A σ ρ th md) (c_X3_isIn l D cD cC cI cZ cL A σ ρ th md way 0 2) q_573 q_574 q_3 q_575 hdX3_isIn rfl ⟨Nat.le_of_ble_eq_true rfl, Nat.le_of_ble_eq_true rfl⟩ (Nat.le_of_ble_eq_true rfl) dX3_wipe_30 rfl ⟨Nat.le_of_ble_eq_true rfl, Nat.le_of_ble_eq_true rfl⟩ (fun _ h => h) (fun _ _ _ _ h => h) (fun _ h => h) (fun _ _ _ _ h _ _ => h) (fun r10 _ hp11 => ?_)
      by_cases h12 : 0 ≤ way ∧ way ≤ 2
      · obtain rfl : r10 = 1 := by rw [hp11]; exact if_pos h12
        refine j_if_eq B 50 dX3_wipe_33 (by decide) (fun h13 => (absurd h13 (by decide))) (fun h13 => ?_)
        refine j_iload_n B dX3_wipe_36 4 rfl rfl ?_
        refine j_aload_n B dX3_wipe_37 1 rfl rfl ?_
        refine j_get B (v := .ref (md 3)) pgX3 rfl (fun H h => pgM.m h) 3 (by decide) q_508 rfl rfl dX3_wipe_38 ?_
        refine j_iload_n B dX3_wipe_41 2 rfl rfl ?_
        refine j_ialdv B (fun H h => pgM.a3 h) 2 rfl (pg_inD hI h3) (v := σ 2 (ix d)) rfl dX3_wipe_42 ?_
        refine j_icmp_eq B 50 dX3_wipe_43 (by decide) (fun h14 => ?_) (fun h14 => ?_)
        · refine j_iconst B (v := 0) dX3_wipe_50 (by decide) ?_
          refine j_istore B (L' := [(5, .int 0), (4, .int 1), (0, .ref (md 0)), (1, .int d), (2, .int way), (3, .int w)]) dX3_wipe_51 (by decide) rfl ?_
          refine j_aload_n B dX3_wipe_53 2 rfl rfl ?_
          refine j_iload B dX3_wipe_54 1 rfl ?_
          refine j_if_ne B 63 dX3_wipe_56 (by decide) (fun h15 => ?_) (fun h15 => (absurd h15 (by decide)))
          refine j_iload B dX3_wipe_63 0 rfl ?_
          refine j_if_ne B 72 dX3_wipe_65 (by decide) (fun h16 => (absurd (by decide) h16)) (fun h16 => ?_)
          refine j_iconst B (v := 2) dX3_wipe_68 (by decide) ?_
          refine j_goto B 105 dX3_wipe_69 (by decide) ?_
          refine j_cVi B (S := Unit) 1 [.int 2] (WdC' := fun _ => pgM D cI cZ A σ ρ 2 md) (fun _ => pgM D cI cZ A σ ρ 2 md) (c_X3_can l D cD cC cI cZ cL A σ ρ th md 2) rfl (fun H h => pgM.m h) q_579 q_581 q_p6 q_3 q_582 hdX3_can rfl ⟨Nat.le_of_ble_eq_true rfl, Nat.le_of_ble_eq_true rfl⟩ (Nat.le_of_ble_eq_true rfl) dX3_wipe_105 rfl ⟨Nat.le_of_ble_eq_true rfl, Nat.le_of_ble_eq_true rfl⟩ (fun _ h => h) (fun _ _ _ _ h => h) (fun _ h => h) (fun _ _ _ _ h _ _ => h) (fun r17 _ hp18 => ?_)
          obtain rfl : r17 = 0 := by rw [hp18]; rfl
          refine j_if_ne B 113 dX3_wipe_108 (by decide) (fun h19 => (absurd (by decide) h19)) (fun h19 => ?_)
          refine j_iconst B (v := 0) dX3_wipe_111 (by decide) ?_
          have e1 : (sp_wipe σ d way w).1 = 2 := by
            simp only [sp_wipe]; grind
          have e2 : (sp_wipe σ d way w).2.2 = σ := by
            simp only [sp_wipe]; grind
          exact j_iret B hr rfl dX3_wipe_112 (Nat.le_of_ble_eq_true rfl) (Nat.le_of_ble_eq_true rfl) () (by rw [e1]; exact fun h => absurd h (by decide)) (fun H h => by rw [e1, e2]; exact h)
        · refine j_iconst B (v := 1) dX3_wipe_46 (by decide) ?_
          refine j_goto B 51 dX3_wipe_47 (by decide) ?_
          refine j_istore B (L' := [(5, .int 1), (4, .int 1), (0, .ref (md 0)), (1, .int d), (2, .int way), (3, .int w)]) dX3_wipe_51 (by decide) rfl ?_
          refine j_aload_n B dX3_wipe_53 2 rfl rfl ?_
          refine j_iload B dX3_wipe_54 1 rfl ?_
          refine j_if_ne B 63 dX3_wipe_56 (by decide) (fun h20 => ?_) (fun h20 => (absurd h20 (by decide)))
          refine j_iload B dX3_wipe_63 0 rfl ?_
          refine j_if_ne B 72 dX3_wipe_65 (by decide) (fun h21 => ?_) (fun h21 => (absurd h21 (by decide)))
          refine j_aload_n B dX3_wipe_72 2 rfl rfl ?_
          refine j_iload_n B dX3_wipe_73 3 rfl rfl ?_
          refine j_cVi B (S := Unit) 1 [.int d] (WdC' := fun _ => pgM D cI cZ A σ ρ th md) (fun _ => pgM D cI cZ A σ ρ th md) (c_X3_isBarred l D cD cC cI cZ cL A σ ρ th md n hI d h3) rfl (fun H h => pgM.m h) q_591 q_593 q_p8 q_3 q_594 hdX3_isBarred rfl ⟨Nat.le_of_ble_eq_true rfl, Nat.le_of_ble_eq_true rfl⟩ (Nat.le_of_ble_eq_true rfl) dX3_wipe_74 rfl ⟨Nat.le_of_ble_eq_true rfl, Nat.le_of_ble_eq_true rfl⟩ (fun _ h => h) (fun _ _ _ _ h => h) (fun _ h => h) (fun _ _ _ _ h _ _ => h) (fun r22 _ hp23 => ?_)
          by_cases h24 : ¬ pgReach σ (ix d)
          · obtain rfl : r22 = 1 := by rw [hp23]; exact if_pos h24
            refine j_if_ne B 100 dX3_wipe_77 (by decide) (fun h25 => ?_) (fun h25 => (absurd h25 (by decide)))
            refine j_iconst B (v := 3) dX3_wipe_100 (by decide) ?_
            refine j_goto B 105 dX3_wipe_101 (by decide) ?_
            refine j_cVi B (S := Unit) 1 [.int 3] (WdC' := fun _ => pgM D cI cZ A σ ρ 3 md) (fun _ => pgM D cI cZ A σ ρ 3 md) (c_X3_can l D cD cC cI cZ cL A σ ρ th md 3) rfl (fun H h => pgM.m h) q_579 q_581 q_p6 q_3 q_582 hdX3_can rfl ⟨Nat.le_of_ble_eq_true rfl, Nat.le_of_ble_eq_true rfl⟩ (Nat.le_of_ble_eq_true rfl) dX3_wipe_105 rfl ⟨Nat.le_of_ble_eq_true rfl, Nat.le_of_ble_eq_true rfl⟩ (fun _ h => h) (fun _ _ _ _ h => h) (fun _ h => h) (fun _ _ _ _ h _ _ => h) (fun r26 _ hp27 => ?_)
            obtain rfl : r26 = 0 := by rw [hp27]; rfl
            refine j_if_ne B 113 dX3_wipe_108 (by decide) (fun h28 => (absurd (by decide) h28)) (fun h28 => ?_)
            refine j_iconst B (v := 0) dX3_wipe_111 (by decide) ?_
            have e1 : (sp_wipe σ d way w).1 = 3 := by
              simp only [sp_wipe]; grind
            have e2 : (sp_wipe σ d way w).2.2 = σ := by
              simp only [sp_wipe]; grind
            exact j_iret B hr rfl dX3_wipe_112 (Nat.le_of_ble_eq_true rfl) (Nat.le_of_ble_eq_true rfl) () (by rw [e1]; exact fun h => absurd h (by decide)) (fun H h => by rw [e1, e2]; exact h)
          · obtain rfl : r22 = 0 := by rw [hp23]; exact if_neg h24
            refine j_if_ne B 100 dX3_wipe_77 (by decide) (fun h29 => (absurd (by decide) h29)) (fun h29 => ?_)
            refine j_aload_n B dX3_wipe_80 2 rfl rfl ?_
            refine j_get B (v := .ref (md 5)) pgX3 rfl (fun H h => pgM.m h) 5 (by decide) q_510 rfl rfl dX3_wipe_81 ?_
            refine j_iload_n B dX3_wipe_84 3 rfl rfl ?_
            refine j_ialdv B (fun H h => pgM.a5 h) 2 rfl (pg_inD hI h3) (v := σ 4 (ix d)) rfl dX3_wipe_85 ?_
            refine j_iconst B (v := 1) dX3_wipe_86 (by decide) ?_
            refine j_icmp_eq B 100 dX3_wipe_87 (by decide) (fun h30 => ?_) (fun h30 => ?_)
            · refine j_iconst B (v := 3) dX3_wipe_100 (by decide) ?_
              refine j_goto B 105 dX3_wipe_101 (by decide) ?_
              refine j_cVi B (S := Unit) 1 [.int 3] (WdC' := fun _ => pgM D cI cZ A σ ρ 3 md) (fun _ => pgM D cI cZ A σ ρ 3 md) (c_X3_can l D cD cC cI cZ cL A σ ρ th md 3) rfl (fun H h => pgM.m h) q_579 q_581 q_p6 q_3 q_582 hdX3_can rfl ⟨Nat.le_of_ble_eq_true rfl, Nat.le_of_ble_eq_true rfl⟩ (Nat.le_of_ble_eq_true rfl) dX3_wipe_105 rfl ⟨Nat.le_of_ble_eq_true rfl, Nat.le_of_ble_eq_true rfl⟩ (fun _ h => h) (fun _ _ _ _ h => h) (fun _ h => h) (fun _ _ _ _ h _ _ => h) (fun r31 _ hp32 => ?_)
              obtain rfl : r31 = 0 := by rw [hp32]; rfl
              refine j_if_ne B 113 dX3_wipe_108 (by decide) (fun h33 => (absurd (by decide) h33)) (fun h33 => ?_)
              refine j_iconst B (v := 0) dX3_wipe_111 (by decide) ?_
              have e1 : (sp_wipe σ d way w).1 = 3 := by
                simp only [sp_wipe]; grind
              have e2 : (sp_wipe σ d way w).2.2 = σ := by
                simp only [sp_wipe]; grind
              exact j_iret B hr rfl dX3_wipe_112 (Nat.le_of_ble_eq_true rfl) (Nat.le_of_ble_eq_true rfl) () (by rw [e1]; exact fun h => absurd h (by decide)) (fun H h => by rw [e1, e2]; exact h)
            · refine j_aload_n B dX3_wipe_90 2 rfl rfl ?_
              refine j_get B (v := .ref (md 5)) pgX3 rfl (fun H h => pgM.m h) 5 (by decide) q_510 rfl rfl dX3_wipe_91 ?_
              refine j_iload_n B dX3_wipe_94 3 rfl rfl ?_
              refine j_ialdv B (fun H h => pgM.a5 h) 2 rfl (pg_inD hI h3) (v := σ 4 (ix d)) rfl dX3_wipe_95 ?_
              refine j_iconst B (v := 3) dX3_wipe_96 (by decide) ?_
              refine j_icmp_ne B 104 dX3_wipe_97 (by decide) (fun h34 => ?_) (fun h34 => ?_)
              · refine j_iconst B (v := 0) dX3_wipe_104 (by decide) ?_
                refine j_cVi B (S := Unit) 1 [.int 0] (WdC' := fun _ => pgM D cI cZ A σ ρ 0 md) (fun _ => pgM D cI cZ A σ ρ 0 md) (c_X3_can l D cD cC cI cZ cL A σ ρ th md 0) rfl (fun H h => pgM.m h) q_579 q_581 q_p6 q_3 q_582 hdX3_can rfl ⟨Nat.le_of_ble_eq_true rfl, Nat.le_of_ble_eq_true rfl⟩ (Nat.le_of_ble_eq_true rfl) dX3_wipe_105 rfl ⟨Nat.le_of_ble_eq_true rfl, Nat.le_of_ble_eq_true rfl⟩ (fun _ h => h) (fun _ _ _ _ h => h) (fun _ h => h) (fun _ _ _ _ h _ _ => h) (fun r35 _ hp36 => ?_)
                obtain rfl : r35 = 1 := by rw [hp36]; rfl
                refine j_if_ne B 113 dX3_wipe_108 (by decide) (fun h37 => ?_) (fun h37 => (absurd h37 (by decide)))
                refine j_aload_n B dX3_wipe_113 2 rfl rfl ?_
                refine j_get B (v := .ref (md 5)) pgX3 rfl (fun H h => pgM.m h) 5 (by decide) q_510 rfl rfl dX3_wipe_114 ?_
                refine j_iload_n B dX3_wipe_117 3 rfl rfl ?_
                refine j_iload_n B dX3_wipe_118 4 rfl rfl ?_
                refine j_aload_n B dX3_wipe_119 2 rfl rfl ?_
                refine j_get B (v := .ref (md 1)) pgX3 rfl (fun H h => pgM.m h) 1 (by decide) q_506 rfl rfl dX3_wipe_120 ?_
                refine j_iload_n B dX3_wipe_123 3 rfl rfl ?_
                refine j_ialdv B (fun H h => pgM.a1 h) 2 rfl (pg_inD hI h3) (v := σ 0 (ix d)) rfl dX3_wipe_124 ?_
                refine j_icmp_ne B 142 dX3_wipe_125 (by decide) (fun h38 => ?_) (fun h38 => ?_)
                · refine j_iconst B (v := 2) dX3_wipe_142 (by decide) ?_
                  refine j_iast B (Wd' := pgM D cI cZ A (pgU σ 4 (ix d) 2) ρ 0 md) (fun H h => pgM.a5 h) 2 rfl (pg_inD hI h3) dX3_wipe_143 (hIn 5 (by omega)) (fun H H1 h hc hz ho => pgM.putA h (by decide) (pgMx rfl rfl (by decide)) hc ho) ?_
                  refine j_aload_n B dX3_wipe_144 2 rfl rfl ?_
                  refine j_get B (v := .ref (md 8)) pgX3 rfl (fun H h => pgM.m h) 8 (by decide) q_513 rfl rfl dX3_wipe_145 ?_
                  refine j_iload_n B dX3_wipe_148 3 rfl rfl ?_
                  refine j_aload_n B dX3_wipe_149 2 rfl rfl ?_
                  refine j_get B (v := .ref (md 3)) pgX3 rfl (fun H h => pgM.m h) 3 (by decide) q_508 rfl rfl dX3_wipe_150 ?_
                  refine j_iload_n B dX3_wipe_153 3 rfl rfl ?_
                  refine j_ialdv B (fun H h => pgM.a3 h) 2 rfl (pg_inD hI h3) (v := σ 2 (ix d)) rfl dX3_wipe_154 ?_
                  refine j_iast B (Wd' := pgM D cI cZ A (pgU (pgU σ 4 (ix d) 2) 7 (ix d) (σ 2 (ix d))) ρ 0 md) (fun H h => pgM.a8 h) 2 rfl (pg_inD hI h3) dX3_wipe_155 (hIn 8 (by omega)) (fun H H1 h hc hz ho => pgM.putA h (by decide) (pgMx rfl rfl (by decide)) hc ho) ?_
                  refine j_aload_n B dX3_wipe_156 2 rfl rfl ?_
                  refine j_get B (v := .ref (md 9)) pgX3 rfl (fun H h => pgM.m h) 9 (by decide) q_514 rfl rfl dX3_wipe_157 ?_
                  refine j_iload_n B dX3_wipe_160 3 rfl rfl ?_
                  refine j_iconst B (v := 0) dX3_wipe_161 (by decide) ?_
                  refine j_zast B (Wd' := pgM D cI cZ A (pgU (pgU (pgU σ 4 (ix d) 2) 7 (ix d) (σ 2 (ix d))) 8 (ix d) 0) ρ 0 md) (fun H h => pgM.a9 h) 3 rfl (pg_inD hI h3) dX3_wipe_162 (hIn 9 (by omega)) (fun H H1 h hc hz ho => pgM.putA h (by decide) (pgMx rfl rfl (by decide)) (by rw [pg_narZ (Or.inl rfl)] at hc; exact hc) ho) ?_
                  refine j_aload_n B dX3_wipe_163 2 rfl rfl ?_
                  refine j_get B (v := .ref (md 5)) pgX3 rfl (fun H h => pgM.m h) 5 (by decide) q_510 rfl rfl dX3_wipe_164 ?_
                  refine j_iload_n B dX3_wipe_167 3 rfl rfl ?_
                  refine j_ialdv B (fun H h => pgM.a5 h) 2 rfl (pg_inD hI h3) (v := 2) (by simp [pgU]) dX3_wipe_168 ?_
                  have e9 : sp_wipe σ d way w = (0, 2, pgU (pgU (pgU σ 4 (ix d) 2) 7 (ix d) (σ 2 (ix d))) 8 (ix d) 0) := by
                    simp only [sp_wipe]; grind
                  exact j_iret B hr rfl dX3_wipe_169 (Nat.le_of_ble_eq_true rfl) (Nat.le_of_ble_eq_true rfl) () (by rw [e9]; exact fun _ => rfl) (fun H h => by rw [e9]; exact pgM.sim h (pgSim.of fun _ _ _ => rfl))
                · refine j_aload_n B dX3_wipe_128 2 rfl rfl ?_
                  refine j_get B (v := .ref (md 2)) pgX3 rfl (fun H h => pgM.m h) 2 (by decide) q_507 rfl rfl dX3_wipe_129 ?_
                  refine j_iload_n B dX3_wipe_132 3 rfl rfl ?_
                  refine j_ialdv B (fun H h => pgM.a2 h) 2 rfl (pg_inD hI h3) (v := σ 1 (ix d)) rfl dX3_wipe_133 ?_
                  refine j_iconst B (v := 3) dX3_wipe_134 (by decide) ?_
                  refine j_icmp_ge B 142 dX3_wipe_135 (by decide) (fun h39 => ?_) (fun h39 => ?_)
                  · refine j_iconst B (v := 2) dX3_wipe_142 (by decide) ?_
                    refine j_iast B (Wd' := pgM D cI cZ A (pgU σ 4 (ix d) 2) ρ 0 md) (fun H h => pgM.a5 h) 2 rfl (pg_inD hI h3) dX3_wipe_143 (hIn 5 (by omega)) (fun H H1 h hc hz ho => pgM.putA h (by decide) (pgMx rfl rfl (by decide)) hc ho) ?_
                    refine j_aload_n B dX3_wipe_144 2 rfl rfl ?_
                    refine j_get B (v := .ref (md 8)) pgX3 rfl (fun H h => pgM.m h) 8 (by decide) q_513 rfl rfl dX3_wipe_145 ?_
                    refine j_iload_n B dX3_wipe_148 3 rfl rfl ?_
                    refine j_aload_n B dX3_wipe_149 2 rfl rfl ?_
                    refine j_get B (v := .ref (md 3)) pgX3 rfl (fun H h => pgM.m h) 3 (by decide) q_508 rfl rfl dX3_wipe_150 ?_
                    refine j_iload_n B dX3_wipe_153 3 rfl rfl ?_
                    refine j_ialdv B (fun H h => pgM.a3 h) 2 rfl (pg_inD hI h3) (v := σ 2 (ix d)) rfl dX3_wipe_154 ?_
                    refine j_iast B (Wd' := pgM D cI cZ A (pgU (pgU σ 4 (ix d) 2) 7 (ix d) (σ 2 (ix d))) ρ 0 md) (fun H h => pgM.a8 h) 2 rfl (pg_inD hI h3) dX3_wipe_155 (hIn 8 (by omega)) (fun H H1 h hc hz ho => pgM.putA h (by decide) (pgMx rfl rfl (by decide)) hc ho) ?_
                    refine j_aload_n B dX3_wipe_156 2 rfl rfl ?_
                    refine j_get B (v := .ref (md 9)) pgX3 rfl (fun H h => pgM.m h) 9 (by decide) q_514 rfl rfl dX3_wipe_157 ?_
                    refine j_iload_n B dX3_wipe_160 3 rfl rfl ?_
                    refine j_iconst B (v := 0) dX3_wipe_161 (by decide) ?_
                    refine j_zast B (Wd' := pgM D cI cZ A (pgU (pgU (pgU σ 4 (ix d) 2) 7 (ix d) (σ 2 (ix d))) 8 (ix d) 0) ρ 0 md) (fun H h => pgM.a9 h) 3 rfl (pg_inD hI h3) dX3_wipe_162 (hIn 9 (by omega)) (fun H H1 h hc hz ho => pgM.putA h (by decide) (pgMx rfl rfl (by decide)) (by rw [pg_narZ (Or.inl rfl)] at hc; exact hc) ho) ?_
                    refine j_aload_n B dX3_wipe_163 2 rfl rfl ?_
                    refine j_get B (v := .ref (md 5)) pgX3 rfl (fun H h => pgM.m h) 5 (by decide) q_510 rfl rfl dX3_wipe_164 ?_
                    refine j_iload_n B dX3_wipe_167 3 rfl rfl ?_
                    refine j_ialdv B (fun H h => pgM.a5 h) 2 rfl (pg_inD hI h3) (v := 2) (by simp [pgU]) dX3_wipe_168 ?_
                    have e9 : sp_wipe σ d way w = (0, 2, pgU (pgU (pgU σ 4 (ix d) 2) 7 (ix d) (σ 2 (ix d))) 8 (ix d) 0) := by
                      simp only [sp_wipe]; grind
                    exact j_iret B hr rfl dX3_wipe_169 (Nat.le_of_ble_eq_true rfl) (Nat.le_of_ble_eq_true rfl) () (by rw [e9]; exact fun _ => rfl) (fun H h => by rw [e9]; exact pgM.sim h (pgSim.of fun _ _ _ => rfl))
                  · refine j_iconst B (v := 1) dX3_wipe_138 (by decide) ?_
                    refine j_goto B 143 dX3_wipe_139 (by decide) ?_
                    refine j_iast B (Wd' := pgM D cI cZ A (pgU σ 4 (ix d) 1) ρ 0 md) (fun H h => pgM.a5 h) 2 rfl (pg_inD hI h3) dX3_wipe_143 (hIn 5 (by omega)) (fun H H1 h hc hz ho => pgM.putA h (by decide) (pgMx rfl rfl (by decide)) hc ho) ?_
                    refine j_aload_n B dX3_wipe_144 2 rfl rfl ?_
                    refine j_get B (v := .ref (md 8)) pgX3 rfl (fun H h => pgM.m h) 8 (by decide) q_513 rfl rfl dX3_wipe_145 ?_
                    refine j_iload_n B dX3_wipe_148 3 rfl rfl ?_
                    refine j_aload_n B dX3_wipe_149 2 rfl rfl ?_
                    refine j_get B (v := .ref (md 3)) pgX3 rfl (fun H h => pgM.m h) 3 (by decide) q_508 rfl rfl dX3_wipe_150 ?_
                    refine j_iload_n B dX3_wipe_153 3 rfl rfl ?_
                    refine j_ialdv B (fun H h => pgM.a3 h) 2 rfl (pg_inD hI h3) (v := σ 2 (ix d)) rfl dX3_wipe_154 ?_
                    refine j_iast B (Wd' := pgM D cI cZ A (pgU (pgU σ 4 (ix d) 1) 7 (ix d) (σ 2 (ix d))) ρ 0 md) (fun H h => pgM.a8 h) 2 rfl (pg_inD hI h3) dX3_wipe_155 (hIn 8 (by omega)) (fun H H1 h hc hz ho => pgM.putA h (by decide) (pgMx rfl rfl (by decide)) hc ho) ?_
                    refine j_aload_n B dX3_wipe_156 2 rfl rfl ?_
                    refine j_get B (v := .ref (md 9)) pgX3 rfl (fun H h => pgM.m h) 9 (by decide) q_514 rfl rfl dX3_wipe_157 ?_
                    refine j_iload_n B dX3_wipe_160 3 rfl rfl ?_
                    refine j_iconst B (v := 0) dX3_wipe_161 (by decide) ?_
                    refine j_zast B (Wd' := pgM D cI cZ A (pgU (pgU (pgU σ 4 (ix d) 1) 7 (ix d) (σ 2 (ix d))) 8 (ix d) 0) ρ 0 md) (fun H h => pgM.a9 h) 3 rfl (pg_inD hI h3) dX3_wipe_162 (hIn 9 (by omega)) (fun H H1 h hc hz ho => pgM.putA h (by decide) (pgMx rfl rfl (by decide)) (by rw [pg_narZ (Or.inl rfl)] at hc; exact hc) ho) ?_
                    refine j_aload_n B dX3_wipe_163 2 rfl rfl ?_
                    refine j_get B (v := .ref (md 5)) pgX3 rfl (fun H h => pgM.m h) 5 (by decide) q_510 rfl rfl dX3_wipe_164 ?_
                    refine j_iload_n B dX3_wipe_167 3 rfl rfl ?_
                    refine j_ialdv B (fun H h => pgM.a5 h) 2 rfl (pg_inD hI h3) (v := 1) (by simp [pgU]) dX3_wipe_168 ?_
                    have e9 : sp_wipe σ d way w = (0, 1, pgU (pgU (pgU σ 4 (ix d) 1) 7 (ix d) (σ 2 (ix d))) 8 (ix d) 0) := by
                      simp only [sp_wipe]; grind
                    exact j_iret B hr rfl dX3_wipe_169 (Nat.le_of_ble_eq_true rfl) (Nat.le_of_ble_eq_true rfl) () (by rw [e9]; exact fun _ => rfl) (fun H h => by rw [e9]; exact pgM.sim h (pgSim.of fun _ _ _ => rfl))
              · refine j_iconst B (v := 3) dX3_wipe_100 (by decide) ?_
                refine j_goto B 105 dX3_wipe_101 (by decide) ?_
                refine j_cVi B (S := Unit) 1 [.int 3] (WdC' := fun _ => pgM D cI cZ A σ ρ 3 md) (fun _ => pgM D cI cZ A σ ρ 3 md) (c_X3_can l D cD cC cI cZ cL A σ ρ th md 3) rfl (fun H h => pgM.m h) q_579 q_581 q_p6 q_3 q_582 hdX3_can rfl ⟨Nat.le_of_ble_eq_true rfl, Nat.le_of_ble_eq_true rfl⟩ (Nat.le_of_ble_eq_true rfl) dX3_wipe_105 rfl ⟨Nat.le_of_ble_eq_true rfl, Nat.le_of_ble_eq_true rfl⟩ (fun _ h => h) (fun _ _ _ _ h => h) (fun _ h => h) (fun _ _ _ _ h _ _ => h) (fun r40 _ hp41 => ?_)
                obtain rfl : r40 = 0 := by rw [hp41]; rfl
                refine j_if_ne B 113 dX3_wipe_108 (by decide) (fun h42 => (absurd (by decide) h42)) (fun h42 => ?_)
                refine j_iconst B (v := 0) dX3_wipe_111 (by decide) ?_
                have e1 : (sp_wipe σ d way w).1 = 3 := by
                  simp only [sp_wipe]; grind
                have e2 : (sp_wipe σ d way w).2.2 = σ := by
                  simp only [sp_wipe]; grind
                exact j_iret B hr rfl dX3_wipe_112 (Nat.le_of_ble_eq_true rfl) (Nat.le_of_ble_eq_true rfl) () (by rw [e1]; exact fun h => absurd h (by decide)) (fun H h => by rw [e1, e2]; exact h)
      · obtain rfl : r10 = 0 := by rw [hp11]; exact if_neg h12
        refine j_if_eq B 50 dX3_wipe_33 (by decide) (fun h43 => ?_) (fun h43 => (absurd (by decide) h43))
        refine j_iconst B (v := 0) dX3_wipe_50 (by decide) ?_
        refine j_istore B (L' := [(5, .int 0), (4, .int 1), (0, .ref (md 0)), (1, .int d), (2, .int way), (3, .int w)]) dX3_wipe_51 (by decide) rfl ?_
        refine j_aload_n B dX3_wipe_53 2 rfl rfl ?_
        refine j_iload B dX3_wipe_54 1 rfl ?_
        refine j_if_ne B 63 dX3_wipe_56 (by decide) (fun h44 => ?_) (fun h44 => (absurd h44 (by decide)))
        refine j_iload B dX3_wipe_63 0 rfl ?_
        refine j_if_ne B 72 dX3_wipe_65 (by decide) (fun h45 => (absurd (by decide) h45)) (fun h45 => ?_)
        refine j_iconst B (v := 2) dX3_wipe_68 (by decide) ?_
        refine j_goto B 105 dX3_wipe_69 (by decide) ?_
        refine j_cVi B (S := Unit) 1 [.int 2] (WdC' := fun _ => pgM D cI cZ A σ ρ 2 md) (fun _ => pgM D cI cZ A σ ρ 2 md) (c_X3_can l D cD cC cI cZ cL A σ ρ th md 2) rfl (fun H h => pgM.m h) q_579 q_581 q_p6 q_3 q_582 hdX3_can rfl ⟨Nat.le_of_ble_eq_true rfl, Nat.le_of_ble_eq_true rfl⟩ (Nat.le_of_ble_eq_true rfl) dX3_wipe_105 rfl ⟨Nat.le_of_ble_eq_true rfl, Nat.le_of_ble_eq_true rfl⟩ (fun _ h => h) (fun _ _ _ _ h => h) (fun _ h => h) (fun _ _ _ _ h _ _ => h) (fun r46 _ hp47 => ?_)
        obtain rfl : r46 = 0 := by rw [hp47]; rfl
        refine j_if_ne B 113 dX3_wipe_108 (by decide) (fun h48 => (absurd (by decide) h48)) (fun h48 => ?_)
        refine j_iconst B (v := 0) dX3_wipe_111 (by decide) ?_
        have e1 : (sp_wipe σ d way w).1 = 2 := by
          simp only [sp_wipe]; grind
        have e2 : (sp_wipe σ d way w).2.2 = σ := by
          simp only [sp_wipe]; grind
        exact j_iret B hr rfl dX3_wipe_112 (Nat.le_of_ble_eq_true rfl) (Nat.le_of_ble_eq_true rfl) () (by rw [e1]; exact fun h => absurd h (by decide)) (fun H h => by rw [e1, e2]; exact h)
    · obtain rfl : r5 = 0 := by rw [hp6]; exact if_neg h7
      refine j_if_eq B 19 dX3_wipe_12 (by decide) (fun h49 => ?_) (fun h49 => (absurd (by decide) h49))
      refine j_iconst B (v := 0) dX3_wipe_19 (by decide) ?_
      refine j_istore B (L' := [(4, .int 0), (0, .ref (md 0)), (1, .int d), (2, .int way), (3, .int w)]) dX3_wipe_20 (by decide) rfl ?_
      refine j_iload B dX3_wipe_22 0 rfl ?_
      refine j_if_eq B 50 dX3_wipe_24 (by decide) (fun h50 => ?_) (fun h50 => (absurd (by decide) h50))
      refine j_iconst B (v := 0) dX3_wipe_50 (by decide) ?_
      refine j_istore B (L' := [(5, .int 0), (4, .int 0), (0, .ref (md 0)), (1, .int d), (2, .int way), (3, .int w)]) dX3_wipe_51 (by decide) rfl ?_
      refine j_aload_n B dX3_wipe_53 2 rfl rfl ?_
      refine j_iload B dX3_wipe_54 1 rfl ?_
      refine j_if_ne B 63 dX3_wipe_56 (by decide) (fun h51 => (absurd (by decide) h51)) (fun h51 => ?_)
      refine j_iconst B (v := 1) dX3_wipe_59 (by decide) ?_
      refine j_goto B 105 dX3_wipe_60 (by decide) ?_
      refine j_cVi B (S := Unit) 1 [.int 1] (WdC' := fun _ => pgM D cI cZ A σ ρ 1 md) (fun _ => pgM D cI cZ A σ ρ 1 md) (c_X3_can l D cD cC cI cZ cL A σ ρ th md 1) rfl (fun H h => pgM.m h) q_579 q_581 q_p6 q_3 q_582 hdX3_can rfl ⟨Nat.le_of_ble_eq_true rfl, Nat.le_of_ble_eq_true rfl⟩ (Nat.le_of_ble_eq_true rfl) dX3_wipe_105 rfl ⟨Nat.le_of_ble_eq_true rfl, Nat.le_of_ble_eq_true rfl⟩ (fun _ h => h) (fun _ _ _ _ h => h) (fun _ h => h) (fun _ _ _ _ h _ _ => h) (fun r52 _ hp53 => ?_)
      obtain rfl : r52 = 0 := by rw [hp53]; rfl
      refine j_if_ne B 113 dX3_wipe_108 (by decide) (fun h54 => (absurd (by decide) h54)) (fun h54 => ?_)
      refine j_iconst B (v := 0) dX3_wipe_111 (by decide) ?_
      have e1 : (sp_wipe σ d way w).1 = 1 := by
        simp only [sp_wipe]; grind
      have e2 : (sp_wipe σ d way w).2.2 = σ := by
        simp only [sp_wipe]; grind
      exact j_iret B hr rfl dX3_wipe_112 (Nat.le_of_ble_eq_true rfl) (Nat.le_of_ble_eq_true rfl) () (by rw [e1]; exact fun h => absurd h (by decide)) (fun H h => by rw [e1, e2]; exact h)
  · obtain rfl : r1 = 0 := by rw [hp2]; exact if_neg h3
    refine j_if_eq B 19 dX3_wipe_5 (by decide) (fun h55 => ?_) (fun h55 => (absurd (by decide) h55))
    refine j_iconst B (v := 0) dX3_wipe_19 (by decide) ?_
    refine j_istore B (L' := [(4, .int 0), (0, .ref (md 0)), (1, .int d), (2, .int way), (3, .int w)]) dX3_wipe_20 (by decide) rfl ?_
    refine j_iload B dX3_wipe_22 0 rfl ?_
    refine j_if_eq B 50 dX3_wipe_24 (by decide) (fun h56 => ?_) (fun h56 => (absurd (by decide) h56))
    refine j_iconst B (v := 0) dX3_wipe_50 (by decide) ?_
    refine j_istore B (L' := [(5, .int 0), (4, .int 0), (0, .ref (md 0)), (1, .int d), (2, .int way), (3, .int w)]) dX3_wipe_51 (by decide) rfl ?_
    refine j_aload_n B dX3_wipe_53 2 rfl rfl ?_
    refine j_iload B dX3_wipe_54 1 rfl ?_
    refine j_if_ne B 63 dX3_wipe_56 (by decide) (fun h57 => (absurd (by decide) h57)) (fun h57 => ?_)
    refine j_iconst B (v := 1) dX3_wipe_59 (by decide) ?_
    refine j_goto B 105 dX3_wipe_60 (by decide) ?_
    refine j_cVi B (S := Unit) 1 [.int 1] (WdC' := fun _ => pgM D cI cZ A σ ρ 1 md) (fun _ => pgM D cI cZ A σ ρ 1 md) (c_X3_can l D cD cC cI cZ cL A σ ρ th md 1) rfl (fun H h => pgM.m h) q_579 q_581 q_p6 q_3 q_582 hdX3_can rfl ⟨Nat.le_of_ble_eq_true rfl, Nat.le_of_ble_eq_true rfl⟩ (Nat.le_of_ble_eq_true rfl) dX3_wipe_105 rfl ⟨Nat.le_of_ble_eq_true rfl, Nat.le_of_ble_eq_true rfl⟩ (fun _ h => h) (fun _ _ _ _ h => h) (fun _ h => h) (fun _ _ _ _ h _ _ => h) (fun r58 _ hp59 => ?_)
    obtain rfl : r58 = 0 := by rw [hp59]; rfl
    refine j_if_ne B 113 dX3_wipe_108 (by decide) (fun h60 => (absurd (by decide) h60)) (fun h60 => ?_)
    refine j_iconst B (v := 0) dX3_wipe_111 (by decide) ?_
    have e1 : (sp_wipe σ d way w).1 = 1 := by
      simp only [sp_wipe]; grind
    have e2 : (sp_wipe σ d way w).2.2 = σ := by
      simp only [sp_wipe]; grind
    exact j_iret B hr rfl dX3_wipe_112 (Nat.le_of_ble_eq_true rfl) (Nat.le_of_ble_eq_true rfl) () (by rw [e1]; exact fun h => absurd h (by decide)) (fun H h => by rw [e1, e2]; exact h)
set_option maxHeartbeats 4000000 in
set_option maxRecDepth 100000 in
/-- smash -/
theorem c_X3_smash (l : Launch) (D : va_G) (cD cC cI cZ cL : ClassId) (A : Nat → Prop) (σ : pgSt) (ρ : Nat → Int32) (th : Int32) (md : Nat → Nat) (n : Nat) (hI : pgI n σ) (d : Int32) (w : Int32) : Met l yX3_smash (.code yX3_smash cX3_smash 5 (some .int) :: pgWd) ({ frames := 2, cells := 0, slots := 0, locals := 43 } : Room) (pgPc D (pgTys cD cC cI cZ cL) A (pgM D cI cZ A σ ρ th md) [.ref (md 0), .int d, .int w]) (va_Qi (fun (r : Int32) (_ : Unit) => (sp_smash σ d w).1 = 0 → r = (sp_smash σ d w).2.1) (fun _ t9 => pgM D cI cZ A ((sp_smash σ d w).2.2) ρ (nI (sp_smash σ d w).1) md t9.heap) A) 0 0 A := by
  refine pg_enter (own := RX3) (by decide) rfl (Nat.le_of_ble_eq_true rfl) (fun p e s m below meth cc9 B hr hnm => ?_)
  refine j_fact (fun H h => pgM.inA h) (fun hIn => ?_)
  refine j_aload_n B dX3_smash_0 0 rfl rfl ?_
  refine j_iload_n B dX3_smash_1 1 rfl rfl ?_
  refine j_cVi B (S := Unit) 1 [.int d] (WdC' := fun _ => pgM D cI cZ A σ ρ th md) (fun _ => pgM D cI cZ A σ ρ th md) (c_X3_isDisk l D cD cC cI cZ cL A σ ρ th md n hI d) rfl (fun H h => pgM.m h) q_587 q_589 q_p7 q_3 q_590 hdX3_isDisk rfl ⟨Nat.le_of_ble_eq_true rfl, Nat.le_of_ble_eq_true rfl⟩ (Nat.le_of_ble_eq_true rfl) dX3_smash_2 rfl ⟨Nat.le_of_ble_eq_true rfl, Nat.le_of_ble_eq_true rfl⟩ (fun _ h => h) (fun _ _ _ _ h => h) (fun _ h => h) (fun _ _ _ _ h _ _ => h) (fun r1 _ hp2 => ?_)
  by_cases h3 : pgIsD σ d
  · obtain rfl : r1 = 1 := by rw [hp2]; exact if_pos h3
    refine j_if_eq B 19 dX3_smash_5 (by decide) (fun h4 => (absurd h4 (by decide))) (fun h4 => ?_)
    refine j_iload_n B dX3_smash_8 2 rfl rfl ?_
    refine j_cSi B (S := Unit) 1 [.int w] (WdC' := fun _ => pgM D cI cZ A σ ρ th md) (fun _ => pgM D cI cZ A σ ρ th md) (c_X3_isKeeper l D cD cC cI cZ cL A σ ρ th md w) q_576 q_577 q_3 q_578 hdX3_isKeeper rfl ⟨Nat.le_of_ble_eq_true rfl, Nat.le_of_ble_eq_true rfl⟩ (Nat.le_of_ble_eq_true rfl) dX3_smash_9 rfl ⟨Nat.le_of_ble_eq_true rfl, Nat.le_of_ble_eq_true rfl⟩ (fun _ h => h) (fun _ _ _ _ h => h) (fun _ h => h) (fun _ _ _ _ h _ _ => h) (fun r5 _ hp6 => ?_)
    by_cases h7 : pgIsK w
    · obtain rfl : r5 = 1 := by rw [hp6]; exact if_pos h7
      refine j_if_eq B 19 dX3_smash_12 (by decide) (fun h8 => (absurd h8 (by decide))) (fun h8 => ?_)
      refine j_iconst B (v := 1) dX3_smash_15 (by decide) ?_
      refine j_goto B 20 dX3_smash_16 (by decide) ?_
      refine j_istore_n B (L' := [(3, .int 1), (0, .ref (md 0)), (1, .int d), (2, .int w)]) dX3_smash_20 rfl (by decide) rfl ?_
      refine j_aload_n B dX3_smash_21 1 rfl rfl ?_
      refine j_iload_n B dX3_smash_22 0 rfl rfl ?_
      refine j_if_ne B 30 dX3_smash_23 (by decide) (fun h9 => ?_) (fun h9 => (absurd h9 (by decide)))
      refine j_iload_n B dX3_smash_30 3 rfl rfl ?_
      refine j_aload_n B dX3_smash_31 1 rfl rfl ?_
      refine j_get B (v := .ref (md 3)) pgX3 rfl (fun H h => pgM.m h) 3 (by decide) q_508 rfl rfl dX3_smash_32 ?_
      refine j_iload_n B dX3_smash_35 2 rfl rfl ?_
      refine j_ialdv B (fun H h => pgM.a3 h) 2 rfl (pg_inD hI h3) (v := σ 2 (ix d)) rfl dX3_smash_36 ?_
      refine j_icmp_ne B 44 dX3_smash_37 (by decide) (fun h10 => ?_) (fun h10 => ?_)
      · refine j_aload_n B dX3_smash_44 1 rfl rfl ?_
        refine j_iload_n B dX3_smash_45 2 rfl rfl ?_
        refine j_cVi B (S := Unit) 1 [.int d] (WdC' := fun _ => pgM D cI cZ A σ ρ th md) (fun _ => pgM D cI cZ A σ ρ th md) (c_X3_isBarred l D cD cC cI cZ cL A σ ρ th md n hI d h3) rfl (fun H h => pgM.m h) q_591 q_593 q_p8 q_3 q_594 hdX3_isBarred rfl ⟨Nat.le_of_ble_eq_true rfl, Nat.le_of_ble_eq_true rfl⟩ (Nat.le_of_ble_eq_true rfl) dX3_smash_46 rfl ⟨Nat.le_of_ble_eq_true rfl, Nat.le_of_ble_eq_true rfl⟩ (fun _ h => h) (fun _ _ _ _ h => h) (fun _ h => h) (fun _ _ _ _ h _ _ => h) (fun r11 _ hp12 => ?_)
        by_cases h13 : ¬ pgReach σ (ix d)
        · obtain rfl : r11 = 1 := by rw [hp12]; exact if_pos h13
          refine j_if_ne B 62 dX3_smash_49 (by decide) (fun h14 => ?_) (fun h14 => (absurd h14 (by decide)))
          refine j_iconst B (v := 3) dX3_smash_62 (by decide) ?_
          refine j_goto B 67 dX3_smash_63 (by decide) ?_
          refine j_cVi B (S := Unit) 1 [.int 3] (WdC' := fun _ => pgM D cI cZ A σ ρ 3 md) (fun _ => pgM D cI cZ A σ ρ 3 md) (c_X3_can l D cD cC cI cZ cL A σ ρ th md 3) rfl (fun H h => pgM.m h) q_579 q_581 q_p6 q_3 q_582 hdX3_can rfl ⟨Nat.le_of_ble_eq_true rfl, Nat.le_of_ble_eq_true rfl⟩ (Nat.le_of_ble_eq_true rfl) dX3_smash_67 rfl ⟨Nat.le_of_ble_eq_true rfl, Nat.le_of_ble_eq_true rfl⟩ (fun _ h => h) (fun _ _ _ _ h => h) (fun _ h => h) (fun _ _ _ _ h _ _ => h) (fun r15 _ hp16 => ?_)
          obtain rfl : r15 = 0 := by rw [hp16]; rfl
          refine j_if_ne B 75 dX3_smash_70 (by decide) (fun h17 => (absurd (by decide) h17)) (fun h17 => ?_)
          refine j_iconst B (v := 0) dX3_smash_73 (by decide) ?_
          have e1 : (sp_smash σ d w).1 = 3 := by
            simp only [sp_smash]; grind
          have e2 : (sp_smash σ d w).2.2 = σ := by
            simp only [sp_smash]; grind
          exact j_iret B hr rfl dX3_smash_74 (Nat.le_of_ble_eq_true rfl) (Nat.le_of_ble_eq_true rfl) () (by rw [e1]; exact fun h => absurd h (by decide)) (fun H h => by rw [e1, e2]; exact h)
        · obtain rfl : r11 = 0 := by rw [hp12]; exact if_neg h13
          refine j_if_ne B 62 dX3_smash_49 (by decide) (fun h18 => (absurd (by decide) h18)) (fun h18 => ?_)
          refine j_aload_n B dX3_smash_52 1 rfl rfl ?_
          refine j_get B (v := .ref (md 5)) pgX3 rfl (fun H h => pgM.m h) 5 (by decide) q_510 rfl rfl dX3_smash_53 ?_
          refine j_iload_n B dX3_smash_56 2 rfl rfl ?_
          refine j_ialdv B (fun H h => pgM.a5 h) 2 rfl (pg_inD hI h3) (v := σ 4 (ix d)) rfl dX3_smash_57 ?_
          refine j_iconst B (v := 3) dX3_smash_58 (by decide) ?_
          refine j_icmp_ne B 66 dX3_smash_59 (by decide) (fun h19 => ?_) (fun h19 => ?_)
          · refine j_iconst B (v := 0) dX3_smash_66 (by decide) ?_
            refine j_cVi B (S := Unit) 1 [.int 0] (WdC' := fun _ => pgM D cI cZ A σ ρ 0 md) (fun _ => pgM D cI cZ A σ ρ 0 md) (c_X3_can l D cD cC cI cZ cL A σ ρ th md 0) rfl (fun H h => pgM.m h) q_579 q_581 q_p6 q_3 q_582 hdX3_can rfl ⟨Nat.le_of_ble_eq_true rfl, Nat.le_of_ble_eq_true rfl⟩ (Nat.le_of_ble_eq_true rfl) dX3_smash_67 rfl ⟨Nat.le_of_ble_eq_true rfl, Nat.le_of_ble_eq_true rfl⟩ (fun _ h => h) (fun _ _ _ _ h => h) (fun _ h => h) (fun _ _ _ _ h _ _ => h) (fun r20 _ hp21 => ?_)
            obtain rfl : r20 = 1 := by rw [hp21]; rfl
            refine j_if_ne B 75 dX3_smash_70 (by decide) (fun h22 => ?_) (fun h22 => (absurd h22 (by decide)))
            refine j_aload_n B dX3_smash_75 1 rfl rfl ?_
            refine j_get B (v := .ref (md 5)) pgX3 rfl (fun H h => pgM.m h) 5 (by decide) q_510 rfl rfl dX3_smash_76 ?_
            refine j_iload_n B dX3_smash_79 2 rfl rfl ?_
            refine j_ialdv B (fun H h => pgM.a5 h) 2 rfl (pg_inD hI h3) (v := σ 4 (ix d)) rfl dX3_smash_80 ?_
            refine j_istore B (L' := [(4, .int (σ 4 (ix d))), (3, .int 1), (0, .ref (md 0)), (1, .int d), (2, .int w)]) dX3_smash_81 (by decide) rfl ?_
            refine j_aload_n B dX3_smash_83 2 rfl rfl ?_
            refine j_get B (v := .ref (md 5)) pgX3 rfl (fun H h => pgM.m h) 5 (by decide) q_510 rfl rfl dX3_smash_84 ?_
            refine j_iload_n B dX3_smash_87 3 rfl rfl ?_
            refine j_iconst B (v := 3) dX3_smash_88 (by decide) ?_
            refine j_iast B (Wd' := pgM D cI cZ A (pgU σ 4 (ix d) 3) ρ 0 md) (fun H h => pgM.a5 h) 2 rfl (pg_inD hI h3) dX3_smash_89 (hIn 5 (by omega)) (fun H H1 h hc hz ho => pgM.putA h (by decide) (pgMx rfl rfl (by decide)) hc ho) ?_
            refine j_iload B dX3_smash_90 0 rfl ?_
            have e9 : sp_smash σ d w = (0, σ 4 (ix d), pgU σ 4 (ix d) 3) := by
              simp only [sp_smash]; grind
            exact j_iret B hr rfl dX3_smash_92 (Nat.le_of_ble_eq_true rfl) (Nat.le_of_ble_eq_true rfl) () (by rw [e9]; exact fun _ => rfl) (fun H h => by rw [e9]; exact pgM.sim h (pgSim.of fun _ _ _ => rfl))
          · refine j_iconst B (v := 3) dX3_smash_62 (by decide) ?_
            refine j_goto B 67 dX3_smash_63 (by decide) ?_
            refine j_cVi B (S := Unit) 1 [.int 3] (WdC' := fun _ => pgM D cI cZ A σ ρ 3 md) (fun _ => pgM D cI cZ A σ ρ 3 md) (c_X3_can l D cD cC cI cZ cL A σ ρ th md 3) rfl (fun H h => pgM.m h) q_579 q_581 q_p6 q_3 q_582 hdX3_can rfl ⟨Nat.le_of_ble_eq_true rfl, Nat.le_of_ble_eq_true rfl⟩ (Nat.le_of_ble_eq_true rfl) dX3_smash_67 rfl ⟨Nat.le_of_ble_eq_true rfl, Nat.le_of_ble_eq_true rfl⟩ (fun _ h => h) (fun _ _ _ _ h => h) (fun _ h => h) (fun _ _ _ _ h _ _ => h) (fun r23 _ hp24 => ?_)
            obtain rfl : r23 = 0 := by rw [hp24]; rfl
            refine j_if_ne B 75 dX3_smash_70 (by decide) (fun h25 => (absurd (by decide) h25)) (fun h25 => ?_)
            refine j_iconst B (v := 0) dX3_smash_73 (by decide) ?_
            have e1 : (sp_smash σ d w).1 = 3 := by
              simp only [sp_smash]; grind
            have e2 : (sp_smash σ d w).2.2 = σ := by
              simp only [sp_smash]; grind
            exact j_iret B hr rfl dX3_smash_74 (Nat.le_of_ble_eq_true rfl) (Nat.le_of_ble_eq_true rfl) () (by rw [e1]; exact fun h => absurd h (by decide)) (fun H h => by rw [e1, e2]; exact h)
      · refine j_iconst B (v := 2) dX3_smash_40 (by decide) ?_
        refine j_goto B 67 dX3_smash_41 (by decide) ?_
        refine j_cVi B (S := Unit) 1 [.int 2] (WdC' := fun _ => pgM D cI cZ A σ ρ 2 md) (fun _ => pgM D cI cZ A σ ρ 2 md) (c_X3_can l D cD cC cI cZ cL A σ ρ th md 2) rfl (fun H h => pgM.m h) q_579 q_581 q_p6 q_3 q_582 hdX3_can rfl ⟨Nat.le_of_ble_eq_true rfl, Nat.le_of_ble_eq_true rfl⟩ (Nat.le_of_ble_eq_true rfl) dX3_smash_67 rfl ⟨Nat.le_of_ble_eq_true rfl, Nat.le_of_ble_eq_true rfl⟩ (fun _ h => h) (fun _ _ _ _ h => h) (fun _ h => h) (fun _ _ _ _ h _ _ => h) (fun r26 _ hp27 => ?_)
        obtain rfl : r26 = 0 := by rw [hp27]; rfl
        refine j_if_ne B 75 dX3_smash_70 (by decide) (fun h28 => (absurd (by decide) h28)) (fun h28 => ?_)
        refine j_iconst B (v := 0) dX3_smash_73 (by decide) ?_
        have e1 : (sp_smash σ d w).1 = 2 := by
          simp only [sp_smash]; grind
        have e2 : (sp_smash σ d w).2.2 = σ := by
          simp only [sp_smash]; grind
        exact j_iret B hr rfl dX3_smash_74 (Nat.le_of_ble_eq_true rfl) (Nat.le_of_ble_eq_true rfl) () (by rw [e1]; exact fun h => absurd h (by decide)) (fun H h => by rw [e1, e2]; exact h)
    · obtain rfl : r5 = 0 := by rw [hp6]; exact if_neg h7
      refine j_if_eq B 19 dX3_smash_12 (by decide) (fun h29 => ?_) (fun h29 => (absurd (by decide) h29))
      refine j_iconst B (v := 0) dX3_smash_19 (by decide) ?_
      refine j_istore_n B (L' := [(3, .int 0), (0, .ref (md 0)), (1, .int d), (2, .int w)]) dX3_smash_20 rfl (by decide) rfl ?_
      refine j_aload_n B dX3_smash_21 1 rfl rfl ?_
      refine j_iload_n B dX3_smash_22 0 rfl rfl ?_
      refine j_if_ne B 30 dX3_smash_23 (by decide) (fun h30 => (absurd (by decide) h30)) (fun h30 => ?_)
      refine j_iconst B (v := 1) dX3_smash_26 (by decide) ?_
      refine j_goto B 67 dX3_smash_27 (by decide) ?_
      refine j_cVi B (S := Unit) 1 [.int 1] (WdC' := fun _ => pgM D cI cZ A σ ρ 1 md) (fun _ => pgM D cI cZ A σ ρ 1 md) (c_X3_can l D cD cC cI cZ cL A σ ρ th md 1) rfl (fun H h => pgM.m h) q_579 q_581 q_p6 q_3 q_582 hdX3_can rfl ⟨Nat.le_of_ble_eq_true rfl, Nat.le_of_ble_eq_true rfl⟩ (Nat.le_of_ble_eq_true rfl) dX3_smash_67 rfl ⟨Nat.le_of_ble_eq_true rfl, Nat.le_of_ble_eq_true rfl⟩ (fun _ h => h) (fun _ _ _ _ h => h) (fun _ h => h) (fun _ _ _ _ h _ _ => h) (fun r31 _ hp32 => ?_)
      obtain rfl : r31 = 0 := by rw [hp32]; rfl
      refine j_if_ne B 75 dX3_smash_70 (by decide) (fun h33 => (absurd (by decide) h33)) (fun h33 => ?_)
      refine j_iconst B (v := 0) dX3_smash_73 (by decide) ?_
      have e1 : (sp_smash σ d w).1 = 1 := by
        simp only [sp_smash]; grind
      have e2 : (sp_smash σ d w).2.2 = σ := by
        simp only [sp_smash]; grind
      exact j_iret B hr rfl dX3_smash_74 (Nat.le_of_ble_eq_true rfl) (Nat.le_of_ble_eq_true rfl) () (by rw [e1]; exact fun h => absurd h (by decide)) (fun H h => by rw [e1, e2]; exact h)
  · obtain rfl : r1 = 0 := by rw [hp2]; exact if_neg h3
    refine j_if_eq B 19 dX3_smash_5 (by decide) (fun h34 => ?_) (fun h34 => (absurd (by decide) h34))
    refine j_iconst B (v := 0) dX3_smash_19 (by decide) ?_
    refine j_istore_n B (L' := [(3, .int 0), (0, .ref (md 0)), (1, .int d), (2, .int w)]) dX3_smash_20 rfl (by decide) rfl ?_
    refine j_aload_n B dX3_smash_21 1 rfl rfl ?_
    refine j_iload_n B dX3_smash_22 0 rfl rfl ?_
    refine j_if_ne B 30 dX3_smash_23 (by decide) (fun h35 => (absurd (by decide) h35)) (fun h35 => ?_)
    refine j_iconst B (v := 1) dX3_smash_26 (by decide) ?_
    refine j_goto B 67 dX3_smash_27 (by decide) ?_
    refine j_cVi B (S := Unit) 1 [.int 1] (WdC' := fun _ => pgM D cI cZ A σ ρ 1 md) (fun _ => pgM D cI cZ A σ ρ 1 md) (c_X3_can l D cD cC cI cZ cL A σ ρ th md 1) rfl (fun H h => pgM.m h) q_579 q_581 q_p6 q_3 q_582 hdX3_can rfl ⟨Nat.le_of_ble_eq_true rfl, Nat.le_of_ble_eq_true rfl⟩ (Nat.le_of_ble_eq_true rfl) dX3_smash_67 rfl ⟨Nat.le_of_ble_eq_true rfl, Nat.le_of_ble_eq_true rfl⟩ (fun _ h => h) (fun _ _ _ _ h => h) (fun _ h => h) (fun _ _ _ _ h _ _ => h) (fun r36 _ hp37 => ?_)
    obtain rfl : r36 = 0 := by rw [hp37]; rfl
    refine j_if_ne B 75 dX3_smash_70 (by decide) (fun h38 => (absurd (by decide) h38)) (fun h38 => ?_)
    refine j_iconst B (v := 0) dX3_smash_73 (by decide) ?_
    have e1 : (sp_smash σ d w).1 = 1 := by
      simp only [sp_smash]; grind
    have e2 : (sp_smash σ d w).2.2 = σ := by
      simp only [sp_smash]; grind
    exact j_iret B hr rfl dX3_smash_74 (Nat.le_of_ble_eq_true rfl) (Nat.le_of_ble_eq_true rfl) () (by rw [e1]; exact fun h => absurd h (by decide)) (fun H h => by rw [e1, e2]; exact h)
set_option maxHeartbeats 4000000 in
set_option maxRecDepth 100000 in
/-- lose -/
theorem c_X3_lose (l : Launch) (D : va_G) (cD cC cI cZ cL : ClassId) (A : Nat → Prop) (σ : pgSt) (ρ : Nat → Int32) (th : Int32) (md : Nat → Nat) (n : Nat) (hI : pgI n σ) (d : Int32) : Met l yX3_lose (.code yX3_lose cX3_lose 2 (some .int) :: pgWd) ({ frames := 2, cells := 0, slots := 0, locals := 43 } : Room) (pgPc D (pgTys cD cC cI cZ cL) A (pgM D cI cZ A σ ρ th md) [.ref (md 0), .int d]) (va_Qi (fun (r : Int32) (_ : Unit) => (sp_lose σ d).1 = 0 → r = (sp_lose σ d).2.1) (fun _ t9 => pgM D cI cZ A ((sp_lose σ d).2.2) ρ (pgKB (sp_lose σ d).1) md t9.heap) A) 0 0 A := by
  refine pg_enter (own := RX3) (by decide) rfl (Nat.le_of_ble_eq_true rfl) (fun p e s m below meth cc9 B hr hnm => ?_)
  refine j_fact (fun H h => pgM.inA h) (fun hIn => ?_)
  refine j_aload_n B dX3_lose_0 0 rfl rfl ?_
  refine j_aload_n B dX3_lose_1 0 rfl rfl ?_
  refine j_iload_n B dX3_lose_2 1 rfl rfl ?_
  refine j_cVi B (S := Unit) 1 [.int d] (WdC' := fun _ => pgM D cI cZ A σ ρ th md) (fun _ => pgM D cI cZ A σ ρ th md) (c_X3_isDisk l D cD cC cI cZ cL A σ ρ th md n hI d) rfl (fun H h => pgM.m h) q_587 q_589 q_p7 q_3 q_590 hdX3_isDisk rfl ⟨Nat.le_of_ble_eq_true rfl, Nat.le_of_ble_eq_true rfl⟩ (Nat.le_of_ble_eq_true rfl) dX3_lose_3 rfl ⟨Nat.le_of_ble_eq_true rfl, Nat.le_of_ble_eq_true rfl⟩ (fun _ h => h) (fun _ _ _ _ h => h) (fun _ h => h) (fun _ _ _ _ h _ _ => h) (fun r1 _ hp2 => ?_)
  by_cases h3 : pgIsD σ d
  · obtain rfl : r1 = 1 := by rw [hp2]; exact if_pos h3
    refine j_if_ne B 13 dX3_lose_6 (by decide) (fun h4 => ?_) (fun h4 => (absurd h4 (by decide)))
    refine j_aload_n B dX3_lose_13 0 rfl rfl ?_
    refine j_get B (v := .ref (md 6)) pgX3 rfl (fun H h => pgM.m h) 6 (by decide) q_511 rfl rfl dX3_lose_14 ?_
    refine j_iload_n B dX3_lose_17 1 rfl rfl ?_
    refine j_zaldv B (fun H h => pgM.a6 h) 3 rfl (pg_inD hI h3) (v := σ 5 (ix d)) rfl dX3_lose_18 ?_
    refine j_if_eq B 26 dX3_lose_19 (by decide) (fun h5 => ?_) (fun h5 => ?_)
    · refine j_iconst B (v := 0) dX3_lose_26 (by decide) ?_
      refine j_cVi B (S := Unit) 1 [.int 0] (WdC' := fun _ => pgM D cI cZ A σ ρ 0 md) (fun _ => pgM D cI cZ A σ ρ 0 md) (c_X3_can l D cD cC cI cZ cL A σ ρ th md 0) rfl (fun H h => pgM.m h) q_579 q_581 q_p6 q_3 q_582 hdX3_can rfl ⟨Nat.le_of_ble_eq_true rfl, Nat.le_of_ble_eq_true rfl⟩ (Nat.le_of_ble_eq_true rfl) dX3_lose_27 rfl ⟨Nat.le_of_ble_eq_true rfl, Nat.le_of_ble_eq_true rfl⟩ (fun _ h => h) (fun _ _ _ _ h => h) (fun _ h => h) (fun _ _ _ _ h _ _ => h) (fun r6 _ hp7 => ?_)
      obtain rfl : r6 = 1 := by rw [hp7]; rfl
      refine j_if_ne B 35 dX3_lose_30 (by decide) (fun h8 => ?_) (fun h8 => (absurd h8 (by decide)))
      refine j_aload_n B dX3_lose_35 0 rfl rfl ?_
      refine j_get B (v := .ref (md 6)) pgX3 rfl (fun H h => pgM.m h) 6 (by decide) q_511 rfl rfl dX3_lose_36 ?_
      refine j_iload_n B dX3_lose_39 1 rfl rfl ?_
      refine j_iconst B (v := 1) dX3_lose_40 (by decide) ?_
      refine j_zast B (Wd' := pgM D cI cZ A (pgU σ 5 (ix d) 1) ρ 0 md) (fun H h => pgM.a6 h) 3 rfl (pg_inD hI h3) dX3_lose_41 (hIn 6 (by omega)) (fun H H1 h hc hz ho => pgM.putA h (by decide) (pgMx rfl rfl (by decide)) (by rw [pg_narZ (Or.inr rfl)] at hc; exact hc) ho) ?_
      refine j_aload_n B dX3_lose_42 0 rfl rfl ?_
      refine j_get B (v := .ref (md 7)) pgX3 rfl (fun H h => pgM.m h) 7 (by decide) q_512 rfl rfl dX3_lose_43 ?_
      refine j_iload_n B dX3_lose_46 1 rfl rfl ?_
      refine j_iconst B (v := (-1)) dX3_lose_47 (by decide) ?_
      refine j_iast B (Wd' := pgM D cI cZ A (pgU (pgU σ 5 (ix d) 1) 6 (ix d) (-1)) ρ 0 md) (fun H h => pgM.a7 h) 2 rfl (pg_inD hI h3) dX3_lose_48 (hIn 7 (by omega)) (fun H H1 h hc hz ho => pgM.putA h (by decide) (pgMx rfl rfl (by decide)) hc ho) ?_
      refine j_aload_n B dX3_lose_49 0 rfl rfl ?_
      refine j_get B (v := .ref (md 3)) pgX3 rfl (fun H h => pgM.m h) 3 (by decide) q_508 rfl rfl dX3_lose_50 ?_
      refine j_iload_n B dX3_lose_53 1 rfl rfl ?_
      refine j_ialdv B (fun H h => pgM.a3 h) 2 rfl (pg_inD hI h3) (v := σ 2 (ix d)) rfl dX3_lose_54 ?_
      have e9 : sp_lose σ d = (0, σ 2 (ix d), pgU (pgU σ 5 (ix d) 1) 6 (ix d) (-1)) := by
        simp only [sp_lose]; grind
      exact j_iret B hr rfl dX3_lose_55 (Nat.le_of_ble_eq_true rfl) (Nat.le_of_ble_eq_true rfl) () (by rw [e9]; exact fun _ => rfl) (fun H h => by rw [e9]; exact pgM.sim h (pgSim.of fun _ _ _ => rfl))
    · refine j_iconst B (v := 2) dX3_lose_22 (by decide) ?_
      refine j_goto B 27 dX3_lose_23 (by decide) ?_
      refine j_cVi B (S := Unit) 1 [.int 2] (WdC' := fun _ => pgM D cI cZ A σ ρ 2 md) (fun _ => pgM D cI cZ A σ ρ 2 md) (c_X3_can l D cD cC cI cZ cL A σ ρ th md 2) rfl (fun H h => pgM.m h) q_579 q_581 q_p6 q_3 q_582 hdX3_can rfl ⟨Nat.le_of_ble_eq_true rfl, Nat.le_of_ble_eq_true rfl⟩ (Nat.le_of_ble_eq_true rfl) dX3_lose_27 rfl ⟨Nat.le_of_ble_eq_true rfl, Nat.le_of_ble_eq_true rfl⟩ (fun _ h => h) (fun _ _ _ _ h => h) (fun _ h => h) (fun _ _ _ _ h _ _ => h) (fun r9 _ hp10 => ?_)
      obtain rfl : r9 = 0 := by rw [hp10]; rfl
      refine j_if_ne B 35 dX3_lose_30 (by decide) (fun h11 => (absurd (by decide) h11)) (fun h11 => ?_)
      refine j_iconst B (v := 0) dX3_lose_33 (by decide) ?_
      have e1 : (sp_lose σ d).1 = 3 := by
        simp only [sp_lose]; grind
      have e2 : (sp_lose σ d).2.2 = σ := by
        simp only [sp_lose]; grind
      exact j_iret B hr rfl dX3_lose_34 (Nat.le_of_ble_eq_true rfl) (Nat.le_of_ble_eq_true rfl) () (by rw [e1]; exact fun h => absurd h (by decide)) (fun H h => by rw [e1, e2]; exact h)
  · obtain rfl : r1 = 0 := by rw [hp2]; exact if_neg h3
    refine j_if_ne B 13 dX3_lose_6 (by decide) (fun h12 => (absurd (by decide) h12)) (fun h12 => ?_)
    refine j_iconst B (v := 1) dX3_lose_9 (by decide) ?_
    refine j_goto B 27 dX3_lose_10 (by decide) ?_
    refine j_cVi B (S := Unit) 1 [.int 1] (WdC' := fun _ => pgM D cI cZ A σ ρ 1 md) (fun _ => pgM D cI cZ A σ ρ 1 md) (c_X3_can l D cD cC cI cZ cL A σ ρ th md 1) rfl (fun H h => pgM.m h) q_579 q_581 q_p6 q_3 q_582 hdX3_can rfl ⟨Nat.le_of_ble_eq_true rfl, Nat.le_of_ble_eq_true rfl⟩ (Nat.le_of_ble_eq_true rfl) dX3_lose_27 rfl ⟨Nat.le_of_ble_eq_true rfl, Nat.le_of_ble_eq_true rfl⟩ (fun _ h => h) (fun _ _ _ _ h => h) (fun _ h => h) (fun _ _ _ _ h _ _ => h) (fun r13 _ hp14 => ?_)
    obtain rfl : r13 = 0 := by rw [hp14]; rfl
    refine j_if_ne B 35 dX3_lose_30 (by decide) (fun h15 => (absurd (by decide) h15)) (fun h15 => ?_)
    refine j_iconst B (v := 0) dX3_lose_33 (by decide) ?_
    have e1 : (sp_lose σ d).1 = 1 := by
      simp only [sp_lose]; grind
    have e2 : (sp_lose σ d).2.2 = σ := by
      simp only [sp_lose]; grind
    exact j_iret B hr rfl dX3_lose_34 (Nat.le_of_ble_eq_true rfl) (Nat.le_of_ble_eq_true rfl) () (by rw [e1]; exact fun h => absurd h (by decide)) (fun H h => by rw [e1, e2]; exact h)
set_option maxHeartbeats 4000000 in
set_option maxRecDepth 100000 in
/-- find -/
theorem c_X3_find (l : Launch) (D : va_G) (cD cC cI cZ cL : ClassId) (A : Nat → Prop) (σ : pgSt) (ρ : Nat → Int32) (th : Int32) (md : Nat → Nat) (n : Nat) (hI : pgI n σ) (d : Int32) : Met l yX3_find (.code yX3_find cX3_find 2 (some .int) :: pgWd) ({ frames := 2, cells := 0, slots := 0, locals := 43 } : Room) (pgPc D (pgTys cD cC cI cZ cL) A (pgM D cI cZ A σ ρ th md) [.ref (md 0), .int d]) (va_Qi (fun (r : Int32) (_ : Unit) => (sp_find σ d).1 = 0 → r = (sp_find σ d).2.1) (fun _ t9 => pgM D cI cZ A ((sp_find σ d).2.2) ρ (pgKB (sp_find σ d).1) md t9.heap) A) 0 0 A := by
  refine pg_enter (own := RX3) (by decide) rfl (Nat.le_of_ble_eq_true rfl) (fun p e s m below meth cc9 B hr hnm => ?_)
  refine j_fact (fun H h => pgM.inA h) (fun hIn => ?_)
  refine j_aload_n B dX3_find_0 0 rfl rfl ?_
  refine j_aload_n B dX3_find_1 0 rfl rfl ?_
  refine j_iload_n B dX3_find_2 1 rfl rfl ?_
  refine j_cVi B (S := Unit) 1 [.int d] (WdC' := fun _ => pgM D cI cZ A σ ρ th md) (fun _ => pgM D cI cZ A σ ρ th md) (c_X3_isDisk l D cD cC cI cZ cL A σ ρ th md n hI d) rfl (fun H h => pgM.m h) q_587 q_589 q_p7 q_3 q_590 hdX3_isDisk rfl ⟨Nat.le_of_ble_eq_true rfl, Nat.le_of_ble_eq_true rfl⟩ (Nat.le_of_ble_eq_true rfl) dX3_find_3 rfl ⟨Nat.le_of_ble_eq_true rfl, Nat.le_of_ble_eq_true rfl⟩ (fun _ h => h) (fun _ _ _ _ h => h) (fun _ h => h) (fun _ _ _ _ h _ _ => h) (fun r1 _ hp2 => ?_)
  by_cases h3 : pgIsD σ d
  · obtain rfl : r1 = 1 := by rw [hp2]; exact if_pos h3
    refine j_if_ne B 13 dX3_find_6 (by decide) (fun h4 => ?_) (fun h4 => (absurd h4 (by decide)))
    refine j_aload_n B dX3_find_13 0 rfl rfl ?_
    refine j_get B (v := .ref (md 6)) pgX3 rfl (fun H h => pgM.m h) 6 (by decide) q_511 rfl rfl dX3_find_14 ?_
    refine j_iload_n B dX3_find_17 1 rfl rfl ?_
    refine j_zaldv B (fun H h => pgM.a6 h) 3 rfl (pg_inD hI h3) (v := σ 5 (ix d)) rfl dX3_find_18 ?_
    refine j_if_eq B 26 dX3_find_19 (by decide) (fun h5 => ?_) (fun h5 => ?_)
    · refine j_iconst B (v := 2) dX3_find_26 (by decide) ?_
      refine j_cVi B (S := Unit) 1 [.int 2] (WdC' := fun _ => pgM D cI cZ A σ ρ 2 md) (fun _ => pgM D cI cZ A σ ρ 2 md) (c_X3_can l D cD cC cI cZ cL A σ ρ th md 2) rfl (fun H h => pgM.m h) q_579 q_581 q_p6 q_3 q_582 hdX3_can rfl ⟨Nat.le_of_ble_eq_true rfl, Nat.le_of_ble_eq_true rfl⟩ (Nat.le_of_ble_eq_true rfl) dX3_find_27 rfl ⟨Nat.le_of_ble_eq_true rfl, Nat.le_of_ble_eq_true rfl⟩ (fun _ h => h) (fun _ _ _ _ h => h) (fun _ h => h) (fun _ _ _ _ h _ _ => h) (fun r6 _ hp7 => ?_)
      obtain rfl : r6 = 0 := by rw [hp7]; rfl
      refine j_if_ne B 35 dX3_find_30 (by decide) (fun h8 => (absurd (by decide) h8)) (fun h8 => ?_)
      refine j_iconst B (v := 0) dX3_find_33 (by decide) ?_
      have e1 : (sp_find σ d).1 = 3 := by
        simp only [sp_find]; grind
      have e2 : (sp_find σ d).2.2 = σ := by
        simp only [sp_find]; grind
      exact j_iret B hr rfl dX3_find_34 (Nat.le_of_ble_eq_true rfl) (Nat.le_of_ble_eq_true rfl) () (by rw [e1]; exact fun h => absurd h (by decide)) (fun H h => by rw [e1, e2]; exact h)
    · refine j_iconst B (v := 0) dX3_find_22 (by decide) ?_
      refine j_goto B 27 dX3_find_23 (by decide) ?_
      refine j_cVi B (S := Unit) 1 [.int 0] (WdC' := fun _ => pgM D cI cZ A σ ρ 0 md) (fun _ => pgM D cI cZ A σ ρ 0 md) (c_X3_can l D cD cC cI cZ cL A σ ρ th md 0) rfl (fun H h => pgM.m h) q_579 q_581 q_p6 q_3 q_582 hdX3_can rfl ⟨Nat.le_of_ble_eq_true rfl, Nat.le_of_ble_eq_true rfl⟩ (Nat.le_of_ble_eq_true rfl) dX3_find_27 rfl ⟨Nat.le_of_ble_eq_true rfl, Nat.le_of_ble_eq_true rfl⟩ (fun _ h => h) (fun _ _ _ _ h => h) (fun _ h => h) (fun _ _ _ _ h _ _ => h) (fun r9 _ hp10 => ?_)
      obtain rfl : r9 = 1 := by rw [hp10]; rfl
      refine j_if_ne B 35 dX3_find_30 (by decide) (fun h11 => ?_) (fun h11 => (absurd h11 (by decide)))
      refine j_aload_n B dX3_find_35 0 rfl rfl ?_
      refine j_get B (v := .ref (md 6)) pgX3 rfl (fun H h => pgM.m h) 6 (by decide) q_511 rfl rfl dX3_find_36 ?_
      refine j_iload_n B dX3_find_39 1 rfl rfl ?_
      refine j_iconst B (v := 0) dX3_find_40 (by decide) ?_
      refine j_zast B (Wd' := pgM D cI cZ A (pgU σ 5 (ix d) 0) ρ 0 md) (fun H h => pgM.a6 h) 3 rfl (pg_inD hI h3) dX3_find_41 (hIn 6 (by omega)) (fun H H1 h hc hz ho => pgM.putA h (by decide) (pgMx rfl rfl (by decide)) (by rw [pg_narZ (Or.inl rfl)] at hc; exact hc) ho) ?_
      refine j_aload_n B dX3_find_42 0 rfl rfl ?_
      refine j_get B (v := .ref (md 4)) pgX3 rfl (fun H h => pgM.m h) 4 (by decide) q_509 rfl rfl dX3_find_43 ?_
      refine j_iload_n B dX3_find_46 1 rfl rfl ?_
      refine j_ialdv B (fun H h => pgM.a4 h) 2 rfl (pg_inD hI h3) (v := σ 3 (ix d)) rfl dX3_find_47 ?_
      have e9 : sp_find σ d = (0, σ 3 (ix d), pgU σ 5 (ix d) 0) := by
        simp only [sp_find]; grind
      exact j_iret B hr rfl dX3_find_48 (Nat.le_of_ble_eq_true rfl) (Nat.le_of_ble_eq_true rfl) () (by rw [e9]; exact fun _ => rfl) (fun H h => by rw [e9]; exact pgM.sim h (pgSim.of fun _ _ _ => rfl))
  · obtain rfl : r1 = 0 := by rw [hp2]; exact if_neg h3
    refine j_if_ne B 13 dX3_find_6 (by decide) (fun h12 => (absurd (by decide) h12)) (fun h12 => ?_)
    refine j_iconst B (v := 1) dX3_find_9 (by decide) ?_
    refine j_goto B 27 dX3_find_10 (by decide) ?_
    refine j_cVi B (S := Unit) 1 [.int 1] (WdC' := fun _ => pgM D cI cZ A σ ρ 1 md) (fun _ => pgM D cI cZ A σ ρ 1 md) (c_X3_can l D cD cC cI cZ cL A σ ρ th md 1) rfl (fun H h => pgM.m h) q_579 q_581 q_p6 q_3 q_582 hdX3_can rfl ⟨Nat.le_of_ble_eq_true rfl, Nat.le_of_ble_eq_true rfl⟩ (Nat.le_of_ble_eq_true rfl) dX3_find_27 rfl ⟨Nat.le_of_ble_eq_true rfl, Nat.le_of_ble_eq_true rfl⟩ (fun _ h => h) (fun _ _ _ _ h => h) (fun _ h => h) (fun _ _ _ _ h _ _ => h) (fun r13 _ hp14 => ?_)
    obtain rfl : r13 = 0 := by rw [hp14]; rfl
    refine j_if_ne B 35 dX3_find_30 (by decide) (fun h15 => (absurd (by decide) h15)) (fun h15 => ?_)
    refine j_iconst B (v := 0) dX3_find_33 (by decide) ?_
    have e1 : (sp_find σ d).1 = 1 := by
      simp only [sp_find]; grind
    have e2 : (sp_find σ d).2.2 = σ := by
      simp only [sp_find]; grind
    exact j_iret B hr rfl dX3_find_34 (Nat.le_of_ble_eq_true rfl) (Nat.le_of_ble_eq_true rfl) () (by rw [e1]; exact fun h => absurd h (by decide)) (fun H h => by rw [e1, e2]; exact h)
